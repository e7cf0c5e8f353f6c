set_option maxHeartbeats 4000000 in
set_option maxRecDepth 100000 in
theorem k_X2_merge (l : Launch) (hlt : l.stackTraces = false) (G : GT) (S : SS) (sz : Nat) {rc : Nat} (hrc : S.1 139 4 = nI rc) (h40 : rc ≤ 40) {nc : Nat} (hnc : S.1 139 7 = nI nc) (h16 : nc ≤ 16) (h1n : 1 ≤ nc) {bi : Nat → Nat} (hbi : ∀ n, n < 16 → bi n < 40 ∧ S.1 142 n = nI (bi n)) (x y z : Int32) : vx_Met l yX2_merge wsX2_merge ({ frames := 8, cells := 12, slots := 72, locals := 135 } : Room) (va_Pc [.ref (gA G 139), .int x, .int y, .int z] (fun U => U.heap.size = sz ∧ cP G S U)) (va_Qi (fun r S' => cdMerge S rc x y z = 0 ∧ r = (doMerge S bi rc nc (cn x) (cn y) (cn z)).1 ∧ S' = (doMerge S bi rc nc (cn x) (cn y) (cn z)).2) (cB G) (gF G sz)) (xT (fun E => E = eX (cdMerge S rc x y z) ∧ ¬ cdMerge S rc x y z = 0)) 12 72 (gF G sz) := by
  refine vx_ofW (cc := cX2_merge) (maxL := 5) (ret := (some .int)) (by decide) rfl ?_
  intro p e s m args below meth c s₁ B hml hout hv
  obtain ⟨rfl, hsz, hW, hK⟩ := hv
  subst hsz
  have hx := B.exec
  have hb := B.bytes
  have hr := B.returns
  have hts := atoms_spec (ws := wsX2_merge) B.pre
  have hown : s.vm.findClass RX2 = some m.cls := findClass_of_methodNamed B.named
  have hlocks := B.notSynchronized
  have hS : va_S (gF G s.heap.size) s.heap s.heap [] := va_S.rf
  have inX0 : ∀ w ∈ u_ws RX0 TX0 10, w ∈ wsX2_merge := by decide +kernel
  have inX2 : ∀ w ∈ u_ws RX2 TX2 10, w ∈ wsX2_merge := by decide +kernel
  have hatA : ∀ w ∈ (vx_atS RX2 90 eA eU).filter goodWord, w.before _ s = true := fun w hw => hts w ((by decide +kernel : ∀ w ∈ (vx_atS RX2 90 eA eU).filter goodWord, w ∈ wsX2_merge) w hw)
  have hl := lv_entry ([.ref (gA G 139), .int x, .int y, .int z]) (n := 5) (Nat.le_of_ble_eq_true rfl)
  rw [lg_entry_eq]
  generalize (lg_sl ([.ref (gA G 139), .int x, .int y, .int z]) ++ List.replicate (5 - (lg_sl ([.ref (gA G 139), .int x, .int y, .int z])).length) Slot.unset).toArray = ls at hl ⊢
  have hl : lv_has ls 5 [(0, .ref (gA G 139)), (1, .int x), (2, .int y), (3, .int z)] := hl
  refine lv_aload_n hx hb dX2_merge_0 rfl (lv_at hl 0 rfl) ?_
  refine lv_iload_n hx hb dX2_merge_1 rfl (lv_at hl 1 rfl) ?_
  refine tv_r (vx_runV (As := [.int x]) (rest := []) ⟨hx, hb, hml, hown, hts⟩ (k_X2_peerOf l hlt G S x) (cwV 1 hts gX2_merge_X2_peerOf rfl rfl rfl (by decide +kernel) ⟨Nat.le_of_ble_eq_true rfl, Nat.le_of_ble_eq_true rfl⟩) ⟨cP_blind, c_recv hW hK (k := 139) (ci := 2) cw_O rfl, cP_at hW hK hS⟩ rfl rfl hl.1 rfl (lv_room (Nat.le_of_ble_eq_true rfl)) dX2_merge_2 ⟨Nat.le_of_ble_eq_true rfl, Nat.le_of_ble_eq_true rfl⟩) hout hlocks (fun E hE => thr_of (k := 1) (by unfold cdMerge; rw [if_neg (isP_no hE.2)]) hE.1 (by decide)) (Nat.le_of_ble_eq_true rfl) (Nat.le_of_ble_eq_true rfl) (fun k_1 h_2 => ?_)
  obtain ⟨i_2, hi_2, rfl, rfl⟩ := h_2
  have cn_i_2 : cn (nI i_2) = i_2 := cn_nI (by omega)
  refine lv_astore (lv' := [(4, .ref (gA G (129 + 5 * i_2))), (0, .ref (gA G 139)), (1, .int (nI i_2)), (2, .int y), (3, .int z)]) hx hb dX2_merge_5 hl (by decide) rfl (fun ls hl => ?_)
  refine lv_aload_n hx hb dX2_merge_7 rfl (lv_at hl 1 rfl) ?_
  refine lv_aload hx hb dX2_merge_8 (lv_at hl 0 rfl) ?_
  refine lv_iload_n hx hb dX2_merge_10 rfl (lv_at hl 3 rfl) ?_
  refine tv_v (vx_runV (As := [.ref (gA G (129 + 5 * i_2)), .int y]) (rest := []) ⟨hx, hb, hml, hown, hts⟩ (k_X2_requireHeld l hlt G S (rc := rc) hrc (by omega) (i := i_2) (by omega) y) (cwV 2 hts gX2_merge_X2_requireHeld rfl rfl rfl (by decide +kernel) ⟨Nat.le_of_ble_eq_true rfl, Nat.le_of_ble_eq_true rfl⟩) ⟨cP_blind, c_recv hW hK (k := 139) (ci := 2) cw_O rfl, cP_at hW hK hS⟩ rfl rfl hl.1 rfl (lv_room (Nat.le_of_ble_eq_true rfl)) dX2_merge_11 ⟨Nat.le_of_ble_eq_true rfl, Nat.le_of_ble_eq_true rfl⟩) hout hlocks (fun E hE => thr_of (k := 1) (by unfold cdMerge; (try simp only [cn_i_2]); rw [if_pos (isP_nI hi_2), if_neg (heldB_no (by omega) hE.2)]) hE.1 (by decide)) (Nat.le_of_ble_eq_true rfl) (Nat.le_of_ble_eq_true rfl) (fun h_11 => ?_)
  obtain ⟨j_3, hj_3, rfl, hb_11⟩ := h_11
  have cn_j_3 : cn (nI j_3) = j_3 := cn_nI (by omega)
  refine lv_aload_n hx hb dX2_merge_14 rfl (lv_at hl 1 rfl) ?_
  refine lv_aload hx hb dX2_merge_15 (lv_at hl 0 rfl) ?_
  refine lv_iload_n hx hb dX2_merge_17 rfl (lv_at hl 4 rfl) ?_
  refine tv_v (vx_runV (As := [.ref (gA G (129 + 5 * i_2)), .int z]) (rest := []) ⟨hx, hb, hml, hown, hts⟩ (k_X2_requireHeld l hlt G S (rc := rc) hrc (by omega) (i := i_2) (by omega) z) (cwV 2 hts gX2_merge_X2_requireHeld rfl rfl rfl (by decide +kernel) ⟨Nat.le_of_ble_eq_true rfl, Nat.le_of_ble_eq_true rfl⟩) ⟨cP_blind, c_recv hW hK (k := 139) (ci := 2) cw_O rfl, cP_at hW hK hS⟩ rfl rfl hl.1 rfl (lv_room (Nat.le_of_ble_eq_true rfl)) dX2_merge_18 ⟨Nat.le_of_ble_eq_true rfl, Nat.le_of_ble_eq_true rfl⟩) hout hlocks (fun E hE => thr_of (k := 1) (by unfold cdMerge; (try simp only [cn_i_2, cn_j_3]); rw [if_pos (isP_nI hi_2), if_pos (heldB_nI hj_3 (by omega) hb_11), if_neg (heldB_no (by omega) hE.2)]) hE.1 (by decide)) (Nat.le_of_ble_eq_true rfl) (Nat.le_of_ble_eq_true rfl) (fun h_18 => ?_)
  obtain ⟨j_4, hj_4, rfl, hb_18⟩ := h_18
  have cn_j_4 : cn (nI j_4) = j_4 := cn_nI (by omega)
  refine lv_aload_n hx hb dX2_merge_21 rfl (lv_at hl 1 rfl) ?_
  refine lv_iload_n hx hb dX2_merge_22 rfl (lv_at hl 3 rfl) ?_
  refine pv_l (va_runV (As := [.int (nI j_3)]) (rest := []) ⟨hx, hb, hml, hown, hts⟩ (k_X2_upTo l G S (r0 := j_3) (by omega)) (cwV 1 hts gX2_merge_X2_upTo rfl rfl rfl (by decide +kernel) ⟨Nat.le_of_ble_eq_true rfl, Nat.le_of_ble_eq_true rfl⟩) ⟨cP_blind, c_recv hW hK (k := 139) (ci := 2) cw_O rfl, cP_at hW hK hS⟩ rfl rfl hl.1 rfl (lv_room (Nat.le_of_ble_eq_true rfl)) dX2_merge_23 ⟨Nat.le_of_ble_eq_true rfl, Nat.le_of_ble_eq_true rfl⟩) (fun r_5 hr_5 => ?_)
  have hr_5 : r_5 = S.2 141 j_3 ||| b64 j_3 := hr_5
  subst hr_5
  refine lv_iload_n hx hb dX2_merge_26 rfl (lv_at hl 4 rfl) ?_
  refine pv_i (va_runS (As := [.long (S.2 141 j_3 ||| b64 j_3), .int (nI j_4)]) (rest := []) ⟨hx, hb, hml, hown, hts⟩ (k_X2_isIn l (S.2 141 j_3 ||| b64 j_3) (k := j_4) (by omega)) (va_cwS 2 hts gX2_merge_X2_isIn rfl rfl rfl (by decide +kernel) ⟨Nat.le_of_ble_eq_true rfl, Nat.le_of_ble_eq_true rfl⟩) ⟨(fun _ _ _ _ h => h), fun U _ _ => ⟨rfl, trivial⟩⟩ rfl rfl hl.1 rfl (lv_room (Nat.le_of_ble_eq_true rfl)) dX2_merge_27 ⟨Nat.le_of_ble_eq_true rfl, Nat.le_of_ble_eq_true rfl⟩) (fun r_6 hr_6 => ?_)
  have hr_6 : r_6 = bI (tb (S.2 141 j_3 ||| b64 j_3) j_4) := hr_6
  subst hr_6
  refine bv_if_ne (b := tb (S.2 141 j_3 ||| b64 j_3) j_4) (tgt := 45) hx hb dX2_merge_30 (by decide) (fun c_30 => ?_) (fun c_30 => ?_)
  · exact tv_throw (text := "one is the other or an ancestor of it") hx hb hlt hown hK hout hlocks (hl.1.trans hml.symm) fit_A at_Ag at_A0 (by decide) (hts (.classLink RX2 86 eA) (by decide +kernel)) (hts (.initialized eA) (by decide +kernel)) hatA (by decide) (thr_of (k := 2) (by unfold cdMerge; (try simp only [cn_i_2, cn_j_3, cn_j_4]); rw [if_pos (isP_nI hi_2), if_pos (heldB_nI hj_3 (by omega) hb_11), if_pos (heldB_nI hj_4 (by omega) hb_18), if_pos c_30]) rfl (by decide)) ⟨Nat.le_of_ble_eq_true rfl, Nat.le_of_ble_eq_true rfl, Nat.le_of_ble_eq_true rfl, Nat.le_of_ble_eq_true rfl, Nat.le_of_ble_eq_true rfl, Nat.le_of_ble_eq_true rfl⟩ dX2_merge_45 dX2_merge_48 dX2_merge_49 dX2_merge_51 dX2_merge_54
  · refine lv_aload_n hx hb dX2_merge_33 rfl (lv_at hl 1 rfl) ?_
    refine lv_iload_n hx hb dX2_merge_34 rfl (lv_at hl 4 rfl) ?_
    refine pv_l (va_runV (As := [.int (nI j_4)]) (rest := []) ⟨hx, hb, hml, hown, hts⟩ (k_X2_upTo l G S (r0 := j_4) (by omega)) (cwV 1 hts gX2_merge_X2_upTo rfl rfl rfl (by decide +kernel) ⟨Nat.le_of_ble_eq_true rfl, Nat.le_of_ble_eq_true rfl⟩) ⟨cP_blind, c_recv hW hK (k := 139) (ci := 2) cw_O rfl, cP_at hW hK hS⟩ rfl rfl hl.1 rfl (lv_room (Nat.le_of_ble_eq_true rfl)) dX2_merge_35 ⟨Nat.le_of_ble_eq_true rfl, Nat.le_of_ble_eq_true rfl⟩) (fun r_7 hr_7 => ?_)
    have hr_7 : r_7 = S.2 141 j_4 ||| b64 j_4 := hr_7
    subst hr_7
    refine lv_iload_n hx hb dX2_merge_38 rfl (lv_at hl 3 rfl) ?_
    refine pv_i (va_runS (As := [.long (S.2 141 j_4 ||| b64 j_4), .int (nI j_3)]) (rest := []) ⟨hx, hb, hml, hown, hts⟩ (k_X2_isIn l (S.2 141 j_4 ||| b64 j_4) (k := j_3) (by omega)) (va_cwS 2 hts gX2_merge_X2_isIn rfl rfl rfl (by decide +kernel) ⟨Nat.le_of_ble_eq_true rfl, Nat.le_of_ble_eq_true rfl⟩) ⟨(fun _ _ _ _ h => h), fun U _ _ => ⟨rfl, trivial⟩⟩ rfl rfl hl.1 rfl (lv_room (Nat.le_of_ble_eq_true rfl)) dX2_merge_39 ⟨Nat.le_of_ble_eq_true rfl, Nat.le_of_ble_eq_true rfl⟩) (fun r_8 hr_8 => ?_)
    have hr_8 : r_8 = bI (tb (S.2 141 j_4 ||| b64 j_4) j_3) := hr_8
    subst hr_8
    refine bv_if_eq (b := tb (S.2 141 j_4 ||| b64 j_4) j_3) (tgt := 55) hx hb dX2_merge_42 (by decide) (fun c_42 => ?_) (fun c_42 => ?_)
    · refine lv_aload_n hx hb dX2_merge_55 rfl (lv_at hl 1 rfl) ?_
      refine tv_v (vx_runV (As := []) (rest := []) ⟨hx, hb, hml, hown, hts⟩ (k_X2_requireRoomForRevision l hlt G S (rc := rc) hrc (by omega)) (cwV 0 hts gX2_merge_X2_requireRoomForRevision rfl rfl rfl (by decide +kernel) ⟨Nat.le_of_ble_eq_true rfl, Nat.le_of_ble_eq_true rfl⟩) ⟨cP_blind, c_recv hW hK (k := 139) (ci := 2) cw_O rfl, cP_at hW hK hS⟩ rfl rfl hl.1 rfl (lv_room (Nat.le_of_ble_eq_true rfl)) dX2_merge_56 ⟨Nat.le_of_ble_eq_true rfl, Nat.le_of_ble_eq_true rfl⟩) hout hlocks (fun E hE => thr_of (k := 3) (by unfold cdMerge; (try simp only [cn_i_2, cn_j_3, cn_j_4]); rw [if_pos (isP_nI hi_2), if_pos (heldB_nI hj_3 (by omega) hb_11), if_pos (heldB_nI hj_4 (by omega) hb_18), if_neg (ne_true_of_eq_false c_30), if_neg (ne_true_of_eq_false c_42), if_neg (by have := hE.2; omega)]) hE.1 (by decide)) (Nat.le_of_ble_eq_true rfl) (Nat.le_of_ble_eq_true rfl) (fun h_56 => ?_)
      refine lv_aload_n hx hb dX2_merge_59 rfl (lv_at hl 1 rfl) ?_
      refine lv_aload hx hb dX2_merge_60 (lv_at hl 0 rfl) ?_
      refine lv_iload_n hx hb dX2_merge_62 rfl (lv_at hl 3 rfl) ?_
      refine lv_iload_n hx hb dX2_merge_63 rfl (lv_at hl 4 rfl) ?_
      refine ev_v (va_runV (As := [.ref (gA G (129 + 5 * i_2)), .int (nI j_3), .int (nI j_4)]) (rest := []) ⟨hx, hb, hml, hown, hts⟩ (k_X2_mergeTrees l G S s.heap.size (rc := rc) hrc (by omega) (nc := nc) hnc (by omega) (by omega) hbi (i := i_2) (by omega) (a := j_3) (b := j_4) (by omega) (by omega)) (cwV 3 hts gX2_merge_X2_mergeTrees rfl rfl rfl (by decide +kernel) ⟨Nat.le_of_ble_eq_true rfl, Nat.le_of_ble_eq_true rfl⟩) ⟨cQ_blind, c_recv hW hK (k := 139) (ci := 2) cw_O rfl, cQ_at hW hK hS⟩ rfl rfl hl.1 rfl (lv_room (Nat.le_of_ble_eq_true rfl)) dX2_merge_64 ⟨Nat.le_of_ble_eq_true rfl, Nat.le_of_ble_eq_true rfl⟩) hS (fun S_9 t9 H locs ht9 hS_9 hW hS => ?_)
      have hW : cW G S_9 H := ht9 ▸ hW
      have hnc_1 : S_9.1 139 7 = nI nc := by rw [hS_9, mtS_F _ _ _ _ _ _ _ (by omega) (by omega)]; exact hnc
      refine lv_aload_n hx hb dX2_merge_67 rfl (lv_at hl 1 rfl) ?_
      refine lv_aload hx hb dX2_merge_68 (lv_at hl 0 rfl) ?_
      refine ev_v (va_runV (As := [.ref (gA G (129 + 5 * i_2))]) (rest := []) ⟨hx, hb, hml, hown, hts⟩ (k_X2_listConflicts l G S_9 H.size (nc := nc) hnc_1 (by omega) (by omega) (i := i_2) (by omega)) (cwV 1 hts gX2_merge_X2_listConflicts rfl rfl rfl (by decide +kernel) ⟨Nat.le_of_ble_eq_true rfl, Nat.le_of_ble_eq_true rfl⟩) ⟨cQ_blind, c_recv hW hK (k := 139) (ci := 2) cw_O rfl, cQ_at hW hK hS⟩ rfl rfl hl.1 rfl (lv_room (Nat.le_of_ble_eq_true rfl)) dX2_merge_70 ⟨Nat.le_of_ble_eq_true rfl, Nat.le_of_ble_eq_true rfl⟩) hS (fun S_10 t9 H locs ht9 hS_10 hW hS => ?_)
      have hW : cW G S_10 H := ht9 ▸ hW
      obtain ⟨q9, eq9⟩ : ∃ z, z = meQ S bi rc nc i_2 j_3 j_4 := ⟨_, rfl⟩
      rw [hS_9] at hS_10
      have hm9 : S_10 = q9.1 ∧ S_10.1 (129 + 5 * i_2) 9 = nI q9.2 ∧ q9.2 ≤ 45 := by rw [eq9]; exact hS_10
      have hq45 := hm9.2.2
      refine lv_aload hx hb dX2_merge_73 (lv_at hl 0 rfl) ?_
      refine va_get (D := gD G) (ci := 0) (v := .int (nI q9.2)) (C := RX0) (T := TX0) (N := 10) hx hb hts inX0 hown hK.1 hW (129 + 5 * i_2) (cw_P (i := i_2) (by omega)) rfl 9 (by decide) (hts (.fieldLink RX2 187 "MarkedTrees$Peer" "listed" "I") (by decide +kernel)) (fun _ h9 => h9) (by rw [← hm9.2.1]; rfl) dX2_merge_75 ?_
      refine lv_if_le (tgt := 88) hx hb dX2_merge_78 (by decide) (fun c_78 => ?_) (fun c_78 => ?_)
      · refine lv_aload hx hb dX2_merge_88 (lv_at hl 0 rfl) ?_
        refine ev_v (va_runV (As := []) (rest := []) ⟨hx, hb, hml, hown, hts⟩ (k_X0_forgetDecisions l G S_10 H.size (i := i_2) (by omega)) (cwV 0 hts gX2_merge_X0_forgetDecisions rfl rfl rfl (by decide +kernel) ⟨Nat.le_of_ble_eq_true rfl, Nat.le_of_ble_eq_true rfl⟩) ⟨cQ_blind, c_recv hW hK (k := (129 + 5 * i_2)) (ci := 0) (cw_P (i := i_2) (by omega)) rfl, cQ_at hW hK hS⟩ rfl rfl hl.1 rfl (lv_room (Nat.le_of_ble_eq_true rfl)) dX2_merge_90 ⟨Nat.le_of_ble_eq_true rfl, Nat.le_of_ble_eq_true rfl⟩) hS (fun S_11 t9 H locs ht9 hS_11 hW hS => ?_)
        have hW : cW G S_11 H := ht9 ▸ hW
        have hrc_9 : S_11.1 139 4 = nI rc := by rw [hS_11, s1_ne _ _ _ _ (by omega), fillG_F _ _ (by omega), hm9.1, eq9, meQ_139 _ _ _ _ (by omega)]; exact hrc
        refine lv_aload_n hx hb dX2_merge_93 rfl (lv_at hl 1 rfl) ?_
        refine lv_aload hx hb dX2_merge_94 (lv_at hl 0 rfl) ?_
        refine lv_aload_n hx hb dX2_merge_96 rfl (lv_at hl 1 rfl) ?_
        refine lv_iload_n hx hb dX2_merge_97 rfl (lv_at hl 3 rfl) ?_
        refine pv_l (va_runV (As := [.int (nI j_3)]) (rest := [.ref (gA G (129 + 5 * i_2)), .ref (gA G 139)]) ⟨hx, hb, hml, hown, hts⟩ (k_X2_upTo l G S_11 (r0 := j_3) (by omega)) (cwV 1 hts gX2_merge_X2_upTo rfl rfl rfl (by decide +kernel) ⟨Nat.le_of_ble_eq_true rfl, Nat.le_of_ble_eq_true rfl⟩) ⟨cP_blind, c_recv hW hK (k := 139) (ci := 2) cw_O rfl, cP_at hW hK hS⟩ rfl rfl hl.1 rfl (lv_room (Nat.le_of_ble_eq_true rfl)) dX2_merge_98 ⟨Nat.le_of_ble_eq_true rfl, Nat.le_of_ble_eq_true rfl⟩) (fun r_12 hr_12 => ?_)
        have hr_12 : r_12 = S_11.2 141 j_3 ||| b64 j_3 := hr_12
        subst hr_12
        refine lv_aload_n hx hb dX2_merge_101 rfl (lv_at hl 1 rfl) ?_
        refine lv_iload_n hx hb dX2_merge_102 rfl (lv_at hl 4 rfl) ?_
        refine pv_l (va_runV (As := [.int (nI j_4)]) (rest := [.long (S_11.2 141 j_3 ||| b64 j_3), .ref (gA G (129 + 5 * i_2)), .ref (gA G 139)]) ⟨hx, hb, hml, hown, hts⟩ (k_X2_upTo l G S_11 (r0 := j_4) (by omega)) (cwV 1 hts gX2_merge_X2_upTo rfl rfl rfl (by decide +kernel) ⟨Nat.le_of_ble_eq_true rfl, Nat.le_of_ble_eq_true rfl⟩) ⟨cP_blind, c_recv hW hK (k := 139) (ci := 2) cw_O rfl, cP_at hW hK hS⟩ rfl rfl hl.1 rfl (lv_room (Nat.le_of_ble_eq_true rfl)) dX2_merge_103 ⟨Nat.le_of_ble_eq_true rfl, Nat.le_of_ble_eq_true rfl⟩) (fun r_13 hr_13 => ?_)
        have hr_13 : r_13 = S_11.2 141 j_4 ||| b64 j_4 := hr_13
        subst hr_13
        refine lv_lor hx hb dX2_merge_106 ?_
        refine lv_aload_n hx hb dX2_merge_107 rfl (lv_at hl 1 rfl) ?_
        refine va_get (D := gD G) (ci := 2) (v := .ref (gA G (3 * 40))) (C := RX2) (T := TX2) (N := 10) hx hb hts inX2 hown hK.1 hW 139 cw_O rfl 8 (by decide) (hts (.fieldLink RX2 44 "MarkedTrees" "merged" "LMarkedTrees$Tree;") (by decide +kernel)) (fun _ h9 => h9) rfl dX2_merge_108 ?_
        refine ev_i (va_runV (As := [.ref (gA G (129 + 5 * i_2)), .long ((S_11.2 141 j_3 ||| b64 j_3) ||| (S_11.2 141 j_4 ||| b64 j_4)), .ref (gA G (3 * 40))]) (rest := []) ⟨hx, hb, hml, hown, hts⟩ (k_X2_makeRevision l G S_11 H.size (rc := rc) hrc_9 (by omega) (i := i_2) (by omega) ((S_11.2 141 j_3 ||| b64 j_3) ||| (S_11.2 141 j_4 ||| b64 j_4)) (t := 40) (by omega)) (cwV 3 hts gX2_merge_X2_makeRevision rfl rfl rfl (by decide +kernel) ⟨Nat.le_of_ble_eq_true rfl, Nat.le_of_ble_eq_true rfl⟩) ⟨cQ_blind, c_recv hW hK (k := 139) (ci := 2) cw_O rfl, cQ_at hW hK hS⟩ rfl rfl hl.1 rfl (lv_room (Nat.le_of_ble_eq_true rfl)) dX2_merge_111 ⟨Nat.le_of_ble_eq_true rfl, Nat.le_of_ble_eq_true rfl⟩) hS (fun r_15 S_14 t9 H locs ht9 hS_14 hW hS => ?_)
        have hW : cW G S_14 H := ht9 ▸ hW
        obtain ⟨rfl, e9_S_14⟩ := hS_14
        refine vx_ret ?_
        refine W.widen (k := 12) (n := 72) (by omega) (by omega) ?_
        exact W.iret (v := nI rc) hx hb hr (fun t9 ht9 _ => ⟨⟨_, S_14, rfl, ⟨(by unfold cdMerge; (try simp only [cn_i_2, cn_j_3, cn_j_4]); rw [if_pos (isP_nI hi_2), if_pos (heldB_nI hj_3 (by omega) hb_11), if_pos (heldB_nI hj_4 (by omega) hb_18), if_neg (ne_true_of_eq_false c_30), if_neg (ne_true_of_eq_false c_42), if_pos h_56]), by (try simp only [cn_i_2, cn_j_3, cn_j_4]); unfold doMerge; rw [← eq9, if_neg (by have := (nI_le0 (by omega)).mp c_78; omega)], by (try simp only [cn_i_2, cn_j_3, cn_j_4]); unfold doMerge; rw [← eq9, if_neg (by have := (nI_le0 (by omega)).mp c_78; omega), e9_S_14, hS_11, hm9.1]⟩, (show cW G S_14 t9.heap by rw [ht9]; exact hW)⟩, hS.F ht9⟩) hS.2.2 dX2_merge_114
      · refine lv_aload hx hb dX2_merge_81 (lv_at hl 0 rfl) ?_
        refine va_get (D := gD G) (ci := 0) (v := .int (nI q9.2)) (C := RX0) (T := TX0) (N := 10) hx hb hts inX0 hown hK.1 hW (129 + 5 * i_2) (cw_P (i := i_2) (by omega)) rfl 9 (by decide) (hts (.fieldLink RX2 187 "MarkedTrees$Peer" "listed" "I") (by decide +kernel)) (fun _ h9 => h9) (by rw [← hm9.2.1]; rfl) dX2_merge_83 ?_
        refine lv_ineg hx hb dX2_merge_86 ?_
        refine vx_ret ?_
        refine W.widen (k := 12) (n := 72) (by omega) (by omega) ?_
        exact W.iret (v := -(nI q9.2)) hx hb hr (fun t9 ht9 _ => ⟨⟨_, S_10, rfl, ⟨(by unfold cdMerge; (try simp only [cn_i_2, cn_j_3, cn_j_4]); rw [if_pos (isP_nI hi_2), if_pos (heldB_nI hj_3 (by omega) hb_11), if_pos (heldB_nI hj_4 (by omega) hb_18), if_neg (ne_true_of_eq_false c_30), if_neg (ne_true_of_eq_false c_42), if_pos h_56]), by (try simp only [cn_i_2, cn_j_3, cn_j_4]); unfold doMerge; rw [← eq9, if_pos (by rcases Nat.eq_zero_or_pos q9.2 with z | z; exact absurd ((nI_le0 (by omega)).mpr z) c_78; exact z)], by (try simp only [cn_i_2, cn_j_3, cn_j_4]); unfold doMerge; rw [← eq9, if_pos (by rcases Nat.eq_zero_or_pos q9.2 with z | z; exact absurd ((nI_le0 (by omega)).mpr z) c_78; exact z)]; exact hm9.1⟩, (show cW G S_10 t9.heap by rw [ht9]; exact hW)⟩, hS.F ht9⟩) hS.2.2 dX2_merge_87
    · exact tv_throw (text := "one is the other or an ancestor of it") hx hb hlt hown hK hout hlocks (hl.1.trans hml.symm) fit_A at_Ag at_A0 (by decide) (hts (.classLink RX2 86 eA) (by decide +kernel)) (hts (.initialized eA) (by decide +kernel)) hatA (by decide) (thr_of (k := 2) (by unfold cdMerge; (try simp only [cn_i_2, cn_j_3, cn_j_4]); rw [if_pos (isP_nI hi_2), if_pos (heldB_nI hj_3 (by omega) hb_11), if_pos (heldB_nI hj_4 (by omega) hb_18), if_neg (ne_true_of_eq_false c_30), if_pos c_42]) rfl (by decide)) ⟨Nat.le_of_ble_eq_true rfl, Nat.le_of_ble_eq_true rfl, Nat.le_of_ble_eq_true rfl, Nat.le_of_ble_eq_true rfl, Nat.le_of_ble_eq_true rfl, Nat.le_of_ble_eq_true rfl⟩ dX2_merge_45 dX2_merge_48 dX2_merge_49 dX2_merge_51 dX2_merge_54

set_option maxHeartbeats 4000000 in
set_option maxRecDepth 100000 in
theorem k_X2_conflict (l : Launch) (hlt : l.stackTraces = false) (G : GT) (S : SS) {lc : Nat → Nat} (hls : ∀ i, i < 2 → lc i ≤ 48 ∧ S.1 (129 + 5 * i) 9 = nI (lc i)) (x y z : Int32) : vx_Met l yX2_conflict wsX2_conflict ({ frames := 7, cells := 8, slots := 48, locals := 103 } : Room) (va_Pc [.ref (gA G 139), .int x, .int y, .int z] (cP G S)) (vp_Si (fun r => cdConflict (lc (cn x)) x y z = 0 ∧ r = (if z = nI 0 then S.1 (132 + 5 * cn x) (cn y) else S.1 (133 + 5 * cn x) (cn y)))) (xT (fun E => E = eX (cdConflict (lc (cn x)) x y z) ∧ ¬ cdConflict (lc (cn x)) x y z = 0)) 8 48 (fun _ => False) := by
  refine vx_ofW (cc := cX2_conflict) (maxL := 5) (ret := (some .int)) (by decide) rfl ?_
  intro p e s m args below meth c s₁ B hml hout hv
  obtain ⟨rfl, hW, hK⟩ := hv
  have hx := B.exec
  have hb := B.bytes
  have hr := B.returns
  have hts := atoms_spec (ws := wsX2_conflict) B.pre
  have hown : s.vm.findClass RX2 = some m.cls := findClass_of_methodNamed B.named
  have hlocks := B.notSynchronized
  have hS : va_S (gF G s.heap.size) s.heap s.heap [] := va_S.rf
  have inX0 : ∀ w ∈ u_ws RX0 TX0 10, w ∈ wsX2_conflict := by decide +kernel
  have hatA : ∀ w ∈ (vx_atS RX2 90 eA eU).filter goodWord, w.before _ s = true := fun w hw => hts w ((by decide +kernel : ∀ w ∈ (vx_atS RX2 90 eA eU).filter goodWord, w ∈ wsX2_conflict) w hw)
  have hl := lv_entry ([.ref (gA G 139), .int x, .int y, .int z]) (n := 5) (Nat.le_of_ble_eq_true rfl)
  rw [lg_entry_eq]
  generalize (lg_sl ([.ref (gA G 139), .int x, .int y, .int z]) ++ List.replicate (5 - (lg_sl ([.ref (gA G 139), .int x, .int y, .int z])).length) Slot.unset).toArray = ls at hl ⊢
  have hl : lv_has ls 5 [(0, .ref (gA G 139)), (1, .int x), (2, .int y), (3, .int z)] := hl
  refine lv_aload_n hx hb dX2_conflict_0 rfl (lv_at hl 0 rfl) ?_
  refine lv_iload_n hx hb dX2_conflict_1 rfl (lv_at hl 1 rfl) ?_
  refine tv_r (vx_runV (As := [.int x]) (rest := []) ⟨hx, hb, hml, hown, hts⟩ (k_X2_peerOf l hlt G S x) (cwV 1 hts gX2_conflict_X2_peerOf rfl rfl rfl (by decide +kernel) ⟨Nat.le_of_ble_eq_true rfl, Nat.le_of_ble_eq_true rfl⟩) ⟨cP_blind, c_recv hW hK (k := 139) (ci := 2) cw_O rfl, cP_at hW hK hS⟩ rfl rfl hl.1 rfl (lv_room (Nat.le_of_ble_eq_true rfl)) dX2_conflict_2 ⟨Nat.le_of_ble_eq_true rfl, Nat.le_of_ble_eq_true rfl⟩) hout hlocks (fun E hE => thr_of (k := 1) (by unfold cdConflict; rw [if_neg (isP_no hE.2)]) hE.1 (by decide)) (Nat.le_of_ble_eq_true rfl) (Nat.le_of_ble_eq_true rfl) (fun k_1 h_2 => ?_)
  obtain ⟨i_2, hi_2, rfl, rfl⟩ := h_2
  have cn_i_2 : cn (nI i_2) = i_2 := cn_nI (by omega)
  refine lv_astore (lv' := [(4, .ref (gA G (129 + 5 * i_2))), (0, .ref (gA G 139)), (1, .int (nI i_2)), (2, .int y), (3, .int z)]) hx hb dX2_conflict_5 hl (by decide) rfl (fun ls hl => ?_)
  obtain ⟨hl48, hlc⟩ := hls i_2 hi_2
  refine lv_iload_n hx hb dX2_conflict_7 rfl (lv_at hl 3 rfl) ?_
  refine lv_if_lt (tgt := 20) hx hb dX2_conflict_8 (by decide) (fun c_8 => ?_) (fun c_8 => ?_)
  · exact tv_throw (text := "no such conflict is listed") hx hb hlt hown hK hout hlocks (hl.1.trans hml.symm) fit_A at_Ag at_A0 (by decide) (hts (.classLink RX2 86 eA) (by decide +kernel)) (hts (.initialized eA) (by decide +kernel)) hatA (by decide) (thr_of (k := 2) (by unfold cdConflict; (try simp only [cn_i_2]); rw [if_pos (isP_nI hi_2), if_neg (fun h9 => rng_no0 c_8 (by omega) ((inB_iff (by omega)).mp h9))]) rfl (by decide)) ⟨Nat.le_of_ble_eq_true rfl, Nat.le_of_ble_eq_true rfl, Nat.le_of_ble_eq_true rfl, Nat.le_of_ble_eq_true rfl, Nat.le_of_ble_eq_true rfl, Nat.le_of_ble_eq_true rfl⟩ dX2_conflict_20 dX2_conflict_23 dX2_conflict_24 dX2_conflict_26 dX2_conflict_29
  · refine lv_iload_n hx hb dX2_conflict_11 rfl (lv_at hl 3 rfl) ?_
    refine lv_aload hx hb dX2_conflict_12 (lv_at hl 0 rfl) ?_
    refine va_get (D := gD G) (ci := 0) (v := .int (nI (lc i_2))) (C := RX0) (T := TX0) (N := 10) hx hb hts inX0 hown hK.1 hW (129 + 5 * i_2) (cw_P (i := i_2) (by omega)) rfl 9 (by decide) (hts (.fieldLink RX2 187 "MarkedTrees$Peer" "listed" "I") (by decide +kernel)) (fun _ h9 => h9) (by rw [← hlc]; rfl) dX2_conflict_14 ?_
    refine lv_icmp_lt (tgt := 30) hx hb dX2_conflict_17 (by decide) (fun c_17 => ?_) (fun c_17 => ?_)
    · obtain ⟨j, hj, rfl⟩ := rng_lt c_8 c_17 (by omega)
      have cn_j : cn (nI j) = j := cn_nI (by omega)
      refine lv_iload_n hx hb dX2_conflict_30 rfl (lv_at hl 4 rfl) ?_
      by_cases y0 : z = nI 0
      · subst y0
        refine lv_lookup (tgt := 56) (off := 25) hx hb dX2_conflict_31 (by decide) (by decide +kernel) (by decide) ?_
        refine lv_aload hx hb dX2_conflict_56 (lv_at hl 0 rfl) ?_
        refine va_get (D := gD G) (ci := 0) (v := .ref (gA G (132 + 5 * i_2))) (C := RX0) (T := TX0) (N := 10) hx hb hts inX0 hown hK.1 hW (129 + 5 * i_2) (cw_P (i := i_2) (by omega)) rfl 7 (by decide) (hts (.fieldLink RX2 195 "MarkedTrees$Peer" "listedNodes" "[I") (by decide +kernel)) (fun _ h9 => h9) rfl dX2_conflict_58 ?_
        refine lv_iload_n hx hb dX2_conflict_61 rfl (lv_at hl 3 rfl) ?_
        refine nv_iald hx hb hK.1 hW (132 + 5 * i_2) 0 (cw_N (i := i_2) (by omega)) rfl (i := j) (by omega) (by decide) dX2_conflict_62 ?_
        refine vx_ret ?_
        refine W.widen (k := 8) (n := 48) (by omega) (by omega) ?_
        exact W.iret (v := S.1 (132 + 5 * i_2) j) hx hb hr (fun t9 ht9 _ => ⟨_, rfl, ⟨(by unfold cdConflict; (try simp only [cn_i_2, cn_j]); rw [if_pos (isP_nI hi_2), if_pos (inB_nI hj (by omega)), if_pos trivial]), by (try simp only [cn_i_2, cn_j]); simp⟩, ht9⟩) (fun _ h => by cases h) dX2_conflict_63
      by_cases y1 : z = nI 1
      · subst y1
        refine lv_lookup (tgt := 64) (off := 33) hx hb dX2_conflict_31 (by decide) (by decide +kernel) (by decide) ?_
        refine lv_aload hx hb dX2_conflict_64 (lv_at hl 0 rfl) ?_
        refine va_get (D := gD G) (ci := 0) (v := .ref (gA G (133 + 5 * i_2))) (C := RX0) (T := TX0) (N := 10) hx hb hts inX0 hown hK.1 hW (129 + 5 * i_2) (cw_P (i := i_2) (by omega)) rfl 8 (by decide) (hts (.fieldLink RX2 198 "MarkedTrees$Peer" "listedKinds" "[I") (by decide +kernel)) (fun _ h9 => h9) rfl dX2_conflict_66 ?_
        refine lv_iload_n hx hb dX2_conflict_69 rfl (lv_at hl 3 rfl) ?_
        refine nv_iald hx hb hK.1 hW (133 + 5 * i_2) 0 (cw_K (i := i_2) (by omega)) rfl (i := j) (by omega) (by decide) dX2_conflict_70 ?_
        refine vx_ret ?_
        refine W.widen (k := 8) (n := 48) (by omega) (by omega) ?_
        exact W.iret (v := S.1 (133 + 5 * i_2) j) hx hb hr (fun t9 ht9 _ => ⟨_, rfl, ⟨(by unfold cdConflict; (try simp only [cn_i_2, cn_j]); rw [if_pos (isP_nI hi_2), if_pos (inB_nI hj (by omega)), if_neg (by decide), if_pos trivial]), by (try simp only [cn_i_2, cn_j]); rw [if_neg (by decide)]⟩, ht9⟩) (fun _ h => by cases h) dX2_conflict_71
      refine lv_lookup (tgt := 72) (off := 41) hx hb dX2_conflict_31 (by decide) (sw2 _ y0 y1) (by decide) ?_
      exact tv_throw (text := "neither node nor kind") hx hb hlt hown hK hout hlocks (hl.1.trans hml.symm) fit_A at_Ag at_A0 (by decide) (hts (.classLink RX2 86 eA) (by decide +kernel)) (hts (.initialized eA) (by decide +kernel)) hatA (by decide) (thr_of (k := 2) (by unfold cdConflict; (try simp only [cn_i_2, cn_j]); rw [if_pos (isP_nI hi_2), if_pos (inB_nI hj (by omega)), if_neg y0, if_neg y1]) rfl (by decide)) ⟨Nat.le_of_ble_eq_true rfl, Nat.le_of_ble_eq_true rfl, Nat.le_of_ble_eq_true rfl, Nat.le_of_ble_eq_true rfl, Nat.le_of_ble_eq_true rfl, Nat.le_of_ble_eq_true rfl⟩ dX2_conflict_72 dX2_conflict_75 dX2_conflict_76 dX2_conflict_78 dX2_conflict_81
    · exact tv_throw (text := "no such conflict is listed") hx hb hlt hown hK hout hlocks (hl.1.trans hml.symm) fit_A at_Ag at_A0 (by decide) (hts (.classLink RX2 86 eA) (by decide +kernel)) (hts (.initialized eA) (by decide +kernel)) hatA (by decide) (thr_of (k := 2) (by unfold cdConflict; (try simp only [cn_i_2]); rw [if_pos (isP_nI hi_2), if_neg (fun h9 => rng_no1 c_17 (by omega) ((inB_iff (by omega)).mp h9))]) rfl (by decide)) ⟨Nat.le_of_ble_eq_true rfl, Nat.le_of_ble_eq_true rfl, Nat.le_of_ble_eq_true rfl, Nat.le_of_ble_eq_true rfl, Nat.le_of_ble_eq_true rfl, Nat.le_of_ble_eq_true rfl⟩ dX2_conflict_20 dX2_conflict_23 dX2_conflict_24 dX2_conflict_26 dX2_conflict_29

set_option maxHeartbeats 4000000 in
set_option maxRecDepth 100000 in
theorem k_X2_about (l : Launch) (hlt : l.stackTraces = false) (G : GT) (S : SS) {rc : Nat} (hrc : S.1 139 4 = nI rc) (h40 : rc ≤ 40) (x y z : Int32) : vx_Met l yX2_about wsX2_about ({ frames := 7, cells := 8, slots := 48, locals := 103 } : Room) (va_Pc [.ref (gA G 139), .int x, .int y, .int z] (cP G S)) (vp_Si (fun r => cdAbout S rc x y z = 0 ∧ r = anAbout S (cn x) (cn y) (cn z))) (xT (fun E => E = eX (cdAbout S rc x y z) ∧ ¬ cdAbout S rc x y z = 0)) 8 48 (fun _ => False) := by
  refine vx_ofW (cc := cX2_about) (maxL := 5) (ret := (some .int)) (by decide) rfl ?_
  intro p e s m args below meth c s₁ B hml hout hv
  obtain ⟨rfl, hW, hK⟩ := hv
  have hx := B.exec
  have hb := B.bytes
  have hr := B.returns
  have hts := atoms_spec (ws := wsX2_about) B.pre
  have hown : s.vm.findClass RX2 = some m.cls := findClass_of_methodNamed B.named
  have hlocks := B.notSynchronized
  have hS : va_S (gF G s.heap.size) s.heap s.heap [] := va_S.rf
  have inX2 : ∀ w ∈ u_ws RX2 TX2 10, w ∈ wsX2_about := by decide +kernel
  have hatA : ∀ w ∈ (vx_atS RX2 90 eA eU).filter goodWord, w.before _ s = true := fun w hw => hts w ((by decide +kernel : ∀ w ∈ (vx_atS RX2 90 eA eU).filter goodWord, w ∈ wsX2_about) w hw)
  have hl := lv_entry ([.ref (gA G 139), .int x, .int y, .int z]) (n := 5) (Nat.le_of_ble_eq_true rfl)
  rw [lg_entry_eq]
  generalize (lg_sl ([.ref (gA G 139), .int x, .int y, .int z]) ++ List.replicate (5 - (lg_sl ([.ref (gA G 139), .int x, .int y, .int z])).length) Slot.unset).toArray = ls at hl ⊢
  have hl : lv_has ls 5 [(0, .ref (gA G 139)), (1, .int x), (2, .int y), (3, .int z)] := hl
  refine lv_aload_n hx hb dX2_about_0 rfl (lv_at hl 0 rfl) ?_
  refine lv_iload_n hx hb dX2_about_1 rfl (lv_at hl 1 rfl) ?_
  refine tv_v (vx_runV (As := [.int x]) (rest := []) ⟨hx, hb, hml, hown, hts⟩ (k_X2_requireRevision l hlt G S (rc := rc) hrc (by omega) x) (cwV 1 hts gX2_about_X2_requireRevision rfl rfl rfl (by decide +kernel) ⟨Nat.le_of_ble_eq_true rfl, Nat.le_of_ble_eq_true rfl⟩) ⟨cP_blind, c_recv hW hK (k := 139) (ci := 2) cw_O rfl, cP_at hW hK hS⟩ rfl rfl hl.1 rfl (lv_room (Nat.le_of_ble_eq_true rfl)) dX2_about_2 ⟨Nat.le_of_ble_eq_true rfl, Nat.le_of_ble_eq_true rfl⟩) hout hlocks (fun E hE => thr_of (k := 1) (by unfold cdAbout; rw [if_neg (fun h9 => hE.2 ((inB_iff (by omega)).mp h9))]) hE.1 (by decide)) (Nat.le_of_ble_eq_true rfl) (Nat.le_of_ble_eq_true rfl) (fun h_2 => ?_)
  obtain ⟨j_1, hj_1, rfl⟩ := h_2
  have cn_j_1 : cn (nI j_1) = j_1 := cn_nI (by omega)
  refine lv_aload_n hx hb dX2_about_5 rfl (lv_at hl 0 rfl) ?_
  refine va_get (D := gD G) (ci := 2) (v := .ref (gA G 140)) (C := RX2) (T := TX2) (N := 10) hx hb hts inX2 hown hK.1 hW 139 cw_O rfl 2 (by decide) (hts (.fieldLink RX2 21 "MarkedTrees" "trees" "[LMarkedTrees$Tree;") (by decide +kernel)) (fun _ h9 => h9) rfl dX2_about_6 ?_
  refine lv_iload_n hx hb dX2_about_9 rfl (lv_at hl 1 rfl) ?_
  refine nv_aald hx hb hK.1 hW 140 3 cw_R rfl (i := j_1) (b := gA G (3 * j_1)) (by omega) (by decide) rfl dX2_about_10 ?_
  refine lv_astore (lv' := [(4, .ref (gA G (3 * j_1))), (0, .ref (gA G 139)), (1, .int (nI j_1)), (2, .int y), (3, .int z)]) hx hb dX2_about_11 hl (by decide) rfl (fun ls hl => ?_)
  refine lv_aload hx hb dX2_about_13 (lv_at hl 0 rfl) ?_
  refine lv_iload_n hx hb dX2_about_15 rfl (lv_at hl 3 rfl) ?_
  refine tv_v (vx_runS (As := [.ref (gA G (3 * j_1)), .int y]) (rest := []) ⟨hx, hb, hml, hown, hts⟩ (k_X2_requireAlive l hlt G S (t := j_1) (by omega) y) (va_cwS 2 hts gX2_about_X2_requireAlive rfl rfl rfl (by decide +kernel) ⟨Nat.le_of_ble_eq_true rfl, Nat.le_of_ble_eq_true rfl⟩) ⟨cP_blind, cP_at hW hK hS⟩ rfl rfl hl.1 rfl (lv_room (Nat.le_of_ble_eq_true rfl)) dX2_about_16 ⟨Nat.le_of_ble_eq_true rfl, Nat.le_of_ble_eq_true rfl⟩) hout hlocks (fun E hE => thr_of (k := 1) (by unfold cdAbout; (try simp only [cn_j_1]); rw [if_pos (inB_nI hj_1 (by omega)), if_neg (by rw [hE.2]; exact Bool.false_ne_true)]) hE.1 (by decide)) (Nat.le_of_ble_eq_true rfl) (Nat.le_of_ble_eq_true rfl) (fun h_16 => ?_)
  obtain ⟨n_2, hn_2, rfl⟩ := aliveB_of h_16
  have cn_n_2 : cn (nI n_2) = n_2 := cn_nI (by omega)
  refine lv_iload_n hx hb dX2_about_19 rfl (lv_at hl 4 rfl) ?_
  rcases swt z (n := 6) (by decide) with ⟨j9, hj9, e9⟩ | ho9
  · obtain rfl | rfl | rfl | rfl | rfl | rfl : j9 = 0 ∨ j9 = 1 ∨ j9 = 2 ∨ j9 = 3 ∨ j9 = 4 ∨ j9 = 5 := by omega
    · subst e9
      refine lv_tableIn (tgt := 60) (off := 40) hx hb dX2_about_20 (by decide +kernel) (by decide +kernel) (by decide +kernel) (by decide) ?_
      refine lv_aload hx hb dX2_about_60 (lv_at hl 0 rfl) ?_
      refine lv_iload_n hx hb dX2_about_62 rfl (lv_at hl 3 rfl) ?_
      refine pv_i (va_runV (As := [.int (nI n_2)]) (rest := []) ⟨hx, hb, hml, hown, hts⟩ (k_X1_parentOf l G S (t := j_1) (by omega) (n := n_2) (by omega)) (cwV 1 hts gX2_about_X1_parentOf rfl rfl rfl (by decide +kernel) ⟨Nat.le_of_ble_eq_true rfl, Nat.le_of_ble_eq_true rfl⟩) ⟨cP_blind, c_recv hW hK (k := (3 * j_1)) (ci := 1) (cw_T (t := j_1) (by omega)) rfl, cP_at hW hK hS⟩ rfl rfl hl.1 rfl (lv_room (Nat.le_of_ble_eq_true rfl)) dX2_about_63 ⟨Nat.le_of_ble_eq_true rfl, Nat.le_of_ble_eq_true rfl⟩) (fun r_3 hr_3 => ?_)
      have hr_3 : r_3 = dP (S.1 (3 * j_1 + 1) (n_2 * 3)) := hr_3
      subst hr_3
      refine vx_ret ?_
      refine W.widen (k := 8) (n := 48) (by omega) (by omega) ?_
      exact W.iret (v := dP (S.1 (3 * j_1 + 1) (n_2 * 3))) hx hb hr (fun t9 ht9 _ => ⟨_, rfl, ⟨(by unfold cdAbout; (try simp only [cn_j_1, cn_n_2, cn_nI (show 0 < 2 ^ 31 by decide)]); rw [if_pos (inB_nI hj_1 (by omega)), if_pos h_16, if_pos (inB_nI (by decide) (by decide))]), by first | (rfl; done) | (simp only [cn_j_1, cn_n_2, cn_nI (show 0 < 2 ^ 31 by decide)]; done) | (simp only [cn_j_1, cn_n_2, cn_nI (show 0 < 2 ^ 31 by decide)]; rfl)⟩, ht9⟩) (fun _ h => by cases h) dX2_about_66
    · subst e9
      refine lv_tableIn (tgt := 67) (off := 47) hx hb dX2_about_20 (by decide +kernel) (by decide +kernel) (by decide +kernel) (by decide) ?_
      refine lv_aload hx hb dX2_about_67 (lv_at hl 0 rfl) ?_
      refine lv_iload_n hx hb dX2_about_69 rfl (lv_at hl 3 rfl) ?_
      refine pv_i (va_runV (As := [.int (nI n_2)]) (rest := []) ⟨hx, hb, hml, hown, hts⟩ (k_X1_nameOf l G S (t := j_1) (by omega) (n := n_2) (by omega)) (cwV 1 hts gX2_about_X1_nameOf rfl rfl rfl (by decide +kernel) ⟨Nat.le_of_ble_eq_true rfl, Nat.le_of_ble_eq_true rfl⟩) ⟨cP_blind, c_recv hW hK (k := (3 * j_1)) (ci := 1) (cw_T (t := j_1) (by omega)) rfl, cP_at hW hK hS⟩ rfl rfl hl.1 rfl (lv_room (Nat.le_of_ble_eq_true rfl)) dX2_about_70 ⟨Nat.le_of_ble_eq_true rfl, Nat.le_of_ble_eq_true rfl⟩) (fun r_4 hr_4 => ?_)
      have hr_4 : r_4 = dN (S.1 (3 * j_1 + 1) (n_2 * 3)) := hr_4
      subst hr_4
      refine vx_ret ?_
      refine W.widen (k := 8) (n := 48) (by omega) (by omega) ?_
      exact W.iret (v := dN (S.1 (3 * j_1 + 1) (n_2 * 3))) hx hb hr (fun t9 ht9 _ => ⟨_, rfl, ⟨(by unfold cdAbout; (try simp only [cn_j_1, cn_n_2, cn_nI (show 1 < 2 ^ 31 by decide)]); rw [if_pos (inB_nI hj_1 (by omega)), if_pos h_16, if_pos (inB_nI (by decide) (by decide))]), by first | (rfl; done) | (simp only [cn_j_1, cn_n_2, cn_nI (show 1 < 2 ^ 31 by decide)]; done) | (simp only [cn_j_1, cn_n_2, cn_nI (show 1 < 2 ^ 31 by decide)]; rfl)⟩, ht9⟩) (fun _ h => by cases h) dX2_about_73
    · subst e9
      refine lv_tableIn (tgt := 74) (off := 54) hx hb dX2_about_20 (by decide +kernel) (by decide +kernel) (by decide +kernel) (by decide) ?_
      refine lv_aload hx hb dX2_about_74 (lv_at hl 0 rfl) ?_
      refine lv_iload_n hx hb dX2_about_76 rfl (lv_at hl 3 rfl) ?_
      refine lv_iconst (v := nI 1) hx hb dX2_about_77 (by decide) ?_
      refine pv_i (va_runV (As := [.int (nI n_2), .int (nI 1)]) (rest := []) ⟨hx, hb, hml, hown, hts⟩ (k_X1_valueOf l G S (t := j_1) (by omega) (n := n_2) (w := 1) (by omega) (by omega)) (cwV 2 hts gX2_about_X1_valueOf rfl rfl rfl (by decide +kernel) ⟨Nat.le_of_ble_eq_true rfl, Nat.le_of_ble_eq_true rfl⟩) ⟨cP_blind, c_recv hW hK (k := (3 * j_1)) (ci := 1) (cw_T (t := j_1) (by omega)) rfl, cP_at hW hK hS⟩ rfl rfl hl.1 rfl (lv_room (Nat.le_of_ble_eq_true rfl)) dX2_about_78 ⟨Nat.le_of_ble_eq_true rfl, Nat.le_of_ble_eq_true rfl⟩) (fun r_5 hr_5 => ?_)
      have hr_5 : r_5 = S.1 (3 * j_1 + 1) (n_2 * 3 + 1) := hr_5
      subst hr_5
      refine vx_ret ?_
      refine W.widen (k := 8) (n := 48) (by omega) (by omega) ?_
      exact W.iret (v := S.1 (3 * j_1 + 1) (n_2 * 3 + 1)) hx hb hr (fun t9 ht9 _ => ⟨_, rfl, ⟨(by unfold cdAbout; (try simp only [cn_j_1, cn_n_2, cn_nI (show 2 < 2 ^ 31 by decide)]); rw [if_pos (inB_nI hj_1 (by omega)), if_pos h_16, if_pos (inB_nI (by decide) (by decide))]), by first | (rfl; done) | (simp only [cn_j_1, cn_n_2, cn_nI (show 2 < 2 ^ 31 by decide)]; done) | (simp only [cn_j_1, cn_n_2, cn_nI (show 2 < 2 ^ 31 by decide)]; rfl)⟩, ht9⟩) (fun _ h => by cases h) dX2_about_81
    · subst e9
      refine lv_tableIn (tgt := 82) (off := 62) hx hb dX2_about_20 (by decide +kernel) (by decide +kernel) (by decide +kernel) (by decide) ?_
      refine lv_aload hx hb dX2_about_82 (lv_at hl 0 rfl) ?_
      refine lv_iload_n hx hb dX2_about_84 rfl (lv_at hl 3 rfl) ?_
      refine lv_iconst (v := nI 2) hx hb dX2_about_85 (by decide) ?_
      refine pv_i (va_runV (As := [.int (nI n_2), .int (nI 2)]) (rest := []) ⟨hx, hb, hml, hown, hts⟩ (k_X1_valueOf l G S (t := j_1) (by omega) (n := n_2) (w := 2) (by omega) (by omega)) (cwV 2 hts gX2_about_X1_valueOf rfl rfl rfl (by decide +kernel) ⟨Nat.le_of_ble_eq_true rfl, Nat.le_of_ble_eq_true rfl⟩) ⟨cP_blind, c_recv hW hK (k := (3 * j_1)) (ci := 1) (cw_T (t := j_1) (by omega)) rfl, cP_at hW hK hS⟩ rfl rfl hl.1 rfl (lv_room (Nat.le_of_ble_eq_true rfl)) dX2_about_86 ⟨Nat.le_of_ble_eq_true rfl, Nat.le_of_ble_eq_true rfl⟩) (fun r_6 hr_6 => ?_)
      have hr_6 : r_6 = S.1 (3 * j_1 + 1) (n_2 * 3 + 2) := hr_6
      subst hr_6
      refine vx_ret ?_
      refine W.widen (k := 8) (n := 48) (by omega) (by omega) ?_
      exact W.iret (v := S.1 (3 * j_1 + 1) (n_2 * 3 + 2)) hx hb hr (fun t9 ht9 _ => ⟨_, rfl, ⟨(by unfold cdAbout; (try simp only [cn_j_1, cn_n_2, cn_nI (show 3 < 2 ^ 31 by decide)]); rw [if_pos (inB_nI hj_1 (by omega)), if_pos h_16, if_pos (inB_nI (by decide) (by decide))]), by first | (rfl; done) | (simp only [cn_j_1, cn_n_2, cn_nI (show 3 < 2 ^ 31 by decide)]; done) | (simp only [cn_j_1, cn_n_2, cn_nI (show 3 < 2 ^ 31 by decide)]; rfl)⟩, ht9⟩) (fun _ h => by cases h) dX2_about_89
    · subst e9
      refine lv_tableIn (tgt := 90) (off := 70) hx hb dX2_about_20 (by decide +kernel) (by decide +kernel) (by decide +kernel) (by decide) ?_
      refine lv_aload_n hx hb dX2_about_90 rfl (lv_at hl 1 rfl) ?_
      refine va_get (D := gD G) (ci := 2) (v := .ref (gA G 142)) (C := RX2) (T := TX2) (N := 10) hx hb hts inX2 hown hK.1 hW 139 cw_O rfl 5 (by decide) (hts (.fieldLink RX2 33 "MarkedTrees" "births" "[I") (by decide +kernel)) (fun _ h9 => h9) rfl dX2_about_91 ?_
      refine lv_iload_n hx hb dX2_about_94 rfl (lv_at hl 3 rfl) ?_
      refine nv_iald hx hb hK.1 hW 142 0 cw_B rfl (i := n_2) (by omega) (by decide) dX2_about_95 ?_
      refine vx_ret ?_
      refine W.widen (k := 8) (n := 48) (by omega) (by omega) ?_
      exact W.iret (v := S.1 142 n_2) hx hb hr (fun t9 ht9 _ => ⟨_, rfl, ⟨(by unfold cdAbout; (try simp only [cn_j_1, cn_n_2, cn_nI (show 4 < 2 ^ 31 by decide)]); rw [if_pos (inB_nI hj_1 (by omega)), if_pos h_16, if_pos (inB_nI (by decide) (by decide))]), by first | (rfl; done) | (simp only [cn_j_1, cn_n_2, cn_nI (show 4 < 2 ^ 31 by decide)]; done) | (simp only [cn_j_1, cn_n_2, cn_nI (show 4 < 2 ^ 31 by decide)]; rfl)⟩, ht9⟩) (fun _ h => by cases h) dX2_about_96
    · subst e9
      refine lv_tableIn (tgt := 97) (off := 77) hx hb dX2_about_20 (by decide +kernel) (by decide +kernel) (by decide +kernel) (by decide) ?_
      refine lv_aload_n hx hb dX2_about_97 rfl (lv_at hl 1 rfl) ?_
      refine lv_iload_n hx hb dX2_about_98 rfl (lv_at hl 3 rfl) ?_
      refine pv_i (va_runV (As := [.int (nI n_2)]) (rest := []) ⟨hx, hb, hml, hown, hts⟩ (k_X2_isDirectory l G S (n := n_2) (by omega)) (cwV 1 hts gX2_about_X2_isDirectory rfl rfl rfl (by decide +kernel) ⟨Nat.le_of_ble_eq_true rfl, Nat.le_of_ble_eq_true rfl⟩) ⟨cP_blind, c_recv hW hK (k := 139) (ci := 2) cw_O rfl, cP_at hW hK hS⟩ rfl rfl hl.1 rfl (lv_room (Nat.le_of_ble_eq_true rfl)) dX2_about_99 ⟨Nat.le_of_ble_eq_true rfl, Nat.le_of_ble_eq_true rfl⟩) (fun r_7 hr_7 => ?_)
      have hr_7 : r_7 = bI (ti (S.1 139 6) n_2) := hr_7
      subst hr_7
      refine bv_if_eq (b := ti (S.1 139 6) n_2) (tgt := 109) hx hb dX2_about_102 (by decide) (fun c_102 => ?_) (fun c_102 => ?_)
      · refine lv_iconst (v := nI 0) hx hb dX2_about_109 (by decide) ?_
        refine vx_ret ?_
        refine W.widen (k := 8) (n := 48) (by omega) (by omega) ?_
        exact W.iret (v := nI 0) hx hb hr (fun t9 ht9 _ => ⟨_, rfl, ⟨(by unfold cdAbout; (try simp only [cn_j_1, cn_n_2, cn_nI (show 5 < 2 ^ 31 by decide)]); rw [if_pos (inB_nI hj_1 (by omega)), if_pos h_16, if_pos (inB_nI (by decide) (by decide))]), by first | (exact (bI_i0 c_102); done) | (simp only [cn_j_1, cn_n_2, cn_nI (show 5 < 2 ^ 31 by decide)]; done) | (simp only [cn_j_1, cn_n_2, cn_nI (show 5 < 2 ^ 31 by decide)]; exact (bI_i0 c_102))⟩, ht9⟩) (fun _ h => by cases h) dX2_about_110
      · refine lv_iconst (v := nI 1) hx hb dX2_about_105 (by decide) ?_
        refine lv_goto (tgt := 110) hx hb dX2_about_106 (by decide) ?_
        refine vx_ret ?_
        refine W.widen (k := 8) (n := 48) (by omega) (by omega) ?_
        exact W.iret (v := nI 1) hx hb hr (fun t9 ht9 _ => ⟨_, rfl, ⟨(by unfold cdAbout; (try simp only [cn_j_1, cn_n_2, cn_nI (show 5 < 2 ^ 31 by decide)]); rw [if_pos (inB_nI hj_1 (by omega)), if_pos h_16, if_pos (inB_nI (by decide) (by decide))]), by first | (exact (bI_i1 c_102); done) | (simp only [cn_j_1, cn_n_2, cn_nI (show 5 < 2 ^ 31 by decide)]; done) | (simp only [cn_j_1, cn_n_2, cn_nI (show 5 < 2 ^ 31 by decide)]; exact (bI_i1 c_102))⟩, ht9⟩) (fun _ h => by cases h) dX2_about_110
  · refine lv_tableOut (tgt := 111) hx hb dX2_about_20 (by have := ho9.2; omega) (by decide) ?_
    exact tv_throw (text := "nothing is told by that number") hx hb hlt hown hK hout hlocks (hl.1.trans hml.symm) fit_A at_Ag at_A0 (by decide) (hts (.classLink RX2 86 eA) (by decide +kernel)) (hts (.initialized eA) (by decide +kernel)) hatA (by decide) (thr_of (k := 2) (by unfold cdAbout; (try simp only [cn_j_1, cn_n_2]); rw [if_pos (inB_nI hj_1 (by omega)), if_pos h_16, if_neg (ne_true_of_eq_false ho9.1)]) rfl (by decide)) ⟨Nat.le_of_ble_eq_true rfl, Nat.le_of_ble_eq_true rfl, Nat.le_of_ble_eq_true rfl, Nat.le_of_ble_eq_true rfl, Nat.le_of_ble_eq_true rfl, Nat.le_of_ble_eq_true rfl⟩ dX2_about_111 dX2_about_114 dX2_about_115 dX2_about_117 dX2_about_120

set_option maxHeartbeats 4000000 in
set_option maxRecDepth 100000 in
theorem k_X2_marks (l : Launch) (hlt : l.stackTraces = false) (G : GT) (S : SS) {rc : Nat} (hrc : S.1 139 4 = nI rc) (h40 : rc ≤ 40) (x y z : Int32) : vx_Met l yX2_marks wsX2_marks ({ frames := 7, cells := 8, slots := 48, locals := 103 } : Room) (va_Pc [.ref (gA G 139), .int x, .int y, .int z] (cP G S)) (vp_Sl (fun r => cdMarks S rc x y z = 0 ∧ r = S.2 (3 * cn x + 2) (cn y * 3 + cn z))) (xT (fun E => E = eX (cdMarks S rc x y z) ∧ ¬ cdMarks S rc x y z = 0)) 8 48 (fun _ => False) := by
  refine vx_ofW (cc := cX2_marks) (maxL := 4) (ret := (some .long)) (by decide) rfl ?_
  intro p e s m args below meth c s₁ B hml hout hv
  obtain ⟨rfl, hW, hK⟩ := hv
  have hx := B.exec
  have hb := B.bytes
  have hr := B.returns
  have hts := atoms_spec (ws := wsX2_marks) B.pre
  have hown : s.vm.findClass RX2 = some m.cls := findClass_of_methodNamed B.named
  have hlocks := B.notSynchronized
  have hS : va_S (gF G s.heap.size) s.heap s.heap [] := va_S.rf
  have inX2 : ∀ w ∈ u_ws RX2 TX2 10, w ∈ wsX2_marks := by decide +kernel
  have hl := lv_entry ([.ref (gA G 139), .int x, .int y, .int z]) (n := 4) (Nat.le_of_ble_eq_true rfl)
  rw [lg_entry_eq]
  generalize (lg_sl ([.ref (gA G 139), .int x, .int y, .int z]) ++ List.replicate (4 - (lg_sl ([.ref (gA G 139), .int x, .int y, .int z])).length) Slot.unset).toArray = ls at hl ⊢
  have hl : lv_has ls 4 [(0, .ref (gA G 139)), (1, .int x), (2, .int y), (3, .int z)] := hl
  refine lv_aload_n hx hb dX2_marks_0 rfl (lv_at hl 0 rfl) ?_
  refine lv_iload_n hx hb dX2_marks_1 rfl (lv_at hl 1 rfl) ?_
  refine tv_v (vx_runV (As := [.int x]) (rest := []) ⟨hx, hb, hml, hown, hts⟩ (k_X2_requireRevision l hlt G S (rc := rc) hrc (by omega) x) (cwV 1 hts gX2_marks_X2_requireRevision rfl rfl rfl (by decide +kernel) ⟨Nat.le_of_ble_eq_true rfl, Nat.le_of_ble_eq_true rfl⟩) ⟨cP_blind, c_recv hW hK (k := 139) (ci := 2) cw_O rfl, cP_at hW hK hS⟩ rfl rfl hl.1 rfl (lv_room (Nat.le_of_ble_eq_true rfl)) dX2_marks_2 ⟨Nat.le_of_ble_eq_true rfl, Nat.le_of_ble_eq_true rfl⟩) hout hlocks (fun E hE => thr_of (k := 1) (by unfold cdMarks; rw [if_neg (fun h9 => hE.2 ((inB_iff (by omega)).mp h9))]) hE.1 (by decide)) (Nat.le_of_ble_eq_true rfl) (Nat.le_of_ble_eq_true rfl) (fun h_2 => ?_)
  obtain ⟨j_1, hj_1, rfl⟩ := h_2
  have cn_j_1 : cn (nI j_1) = j_1 := cn_nI (by omega)
  refine lv_aload_n hx hb dX2_marks_5 rfl (lv_at hl 0 rfl) ?_
  refine va_get (D := gD G) (ci := 2) (v := .ref (gA G 140)) (C := RX2) (T := TX2) (N := 10) hx hb hts inX2 hown hK.1 hW 139 cw_O rfl 2 (by decide) (hts (.fieldLink RX2 21 "MarkedTrees" "trees" "[LMarkedTrees$Tree;") (by decide +kernel)) (fun _ h9 => h9) rfl dX2_marks_6 ?_
  refine lv_iload_n hx hb dX2_marks_9 rfl (lv_at hl 1 rfl) ?_
  refine nv_aald hx hb hK.1 hW 140 3 cw_R rfl (i := j_1) (b := gA G (3 * j_1)) (by omega) (by decide) rfl dX2_marks_10 ?_
  refine lv_iload_n hx hb dX2_marks_11 rfl (lv_at hl 2 rfl) ?_
  refine tv_v (vx_runS (As := [.ref (gA G (3 * j_1)), .int y]) (rest := []) ⟨hx, hb, hml, hown, hts⟩ (k_X2_requireAlive l hlt G S (t := j_1) (by omega) y) (va_cwS 2 hts gX2_marks_X2_requireAlive rfl rfl rfl (by decide +kernel) ⟨Nat.le_of_ble_eq_true rfl, Nat.le_of_ble_eq_true rfl⟩) ⟨cP_blind, cP_at hW hK hS⟩ rfl rfl hl.1 rfl (lv_room (Nat.le_of_ble_eq_true rfl)) dX2_marks_12 ⟨Nat.le_of_ble_eq_true rfl, Nat.le_of_ble_eq_true rfl⟩) hout hlocks (fun E hE => thr_of (k := 1) (by unfold cdMarks; (try simp only [cn_j_1]); rw [if_pos (inB_nI hj_1 (by omega)), if_neg (by rw [hE.2]; exact Bool.false_ne_true)]) hE.1 (by decide)) (Nat.le_of_ble_eq_true rfl) (Nat.le_of_ble_eq_true rfl) (fun h_12 => ?_)
  obtain ⟨n_2, hn_2, rfl⟩ := aliveB_of h_12
  have cn_n_2 : cn (nI n_2) = n_2 := cn_nI (by omega)
  refine lv_iload_n hx hb dX2_marks_15 rfl (lv_at hl 2 rfl) ?_
  refine tv_v (vx_runS (As := [.int (nI n_2)]) (rest := []) ⟨hx, hb, hml, hown, hts⟩ (k_X2_requireNotRoot l hlt G S (nI n_2)) (va_cwS 1 hts gX2_marks_X2_requireNotRoot rfl rfl rfl (by decide +kernel) ⟨Nat.le_of_ble_eq_true rfl, Nat.le_of_ble_eq_true rfl⟩) ⟨cP_blind, cP_at hW hK hS⟩ rfl rfl hl.1 rfl (lv_room (Nat.le_of_ble_eq_true rfl)) dX2_marks_16 ⟨Nat.le_of_ble_eq_true rfl, Nat.le_of_ble_eq_true rfl⟩) hout hlocks (fun E hE => thr_of (k := 2) (by unfold cdMarks; (try simp only [cn_j_1, cn_n_2]); rw [if_pos (inB_nI hj_1 (by omega)), if_pos h_12, if_pos hE.2]) hE.1 (by decide)) (Nat.le_of_ble_eq_true rfl) (Nat.le_of_ble_eq_true rfl) (fun h_16 => ?_)
  refine lv_iload_n hx hb dX2_marks_19 rfl (lv_at hl 3 rfl) ?_
  refine tv_v (vx_runS (As := [.int z]) (rest := []) ⟨hx, hb, hml, hown, hts⟩ (k_X2_requireScalar l hlt G S z) (va_cwS 1 hts gX2_marks_X2_requireScalar rfl rfl rfl (by decide +kernel) ⟨Nat.le_of_ble_eq_true rfl, Nat.le_of_ble_eq_true rfl⟩) ⟨cP_blind, cP_at hW hK hS⟩ rfl rfl hl.1 rfl (lv_room (Nat.le_of_ble_eq_true rfl)) dX2_marks_20 ⟨Nat.le_of_ble_eq_true rfl, Nat.le_of_ble_eq_true rfl⟩) hout hlocks (fun E hE => thr_of (k := 2) (by unfold cdMarks; (try simp only [cn_j_1, cn_n_2]); rw [if_pos (inB_nI hj_1 (by omega)), if_pos h_12, if_neg h_16, if_neg (fun h9 => hE.2 ((inB_iff (by decide)).mp h9))]) hE.1 (by decide)) (Nat.le_of_ble_eq_true rfl) (Nat.le_of_ble_eq_true rfl) (fun h_20 => ?_)
  obtain ⟨n_3, hn_3, rfl⟩ := h_20
  have cn_n_3 : cn (nI n_3) = n_3 := cn_nI (by omega)
  refine lv_aload_n hx hb dX2_marks_23 rfl (lv_at hl 0 rfl) ?_
  refine va_get (D := gD G) (ci := 2) (v := .ref (gA G 140)) (C := RX2) (T := TX2) (N := 10) hx hb hts inX2 hown hK.1 hW 139 cw_O rfl 2 (by decide) (hts (.fieldLink RX2 21 "MarkedTrees" "trees" "[LMarkedTrees$Tree;") (by decide +kernel)) (fun _ h9 => h9) rfl dX2_marks_24 ?_
  refine lv_iload_n hx hb dX2_marks_27 rfl (lv_at hl 1 rfl) ?_
  refine nv_aald hx hb hK.1 hW 140 3 cw_R rfl (i := j_1) (b := gA G (3 * j_1)) (by omega) (by decide) rfl dX2_marks_28 ?_
  refine lv_iload_n hx hb dX2_marks_29 rfl (lv_at hl 2 rfl) ?_
  refine lv_iload_n hx hb dX2_marks_30 rfl (lv_at hl 3 rfl) ?_
  refine pv_l (va_runV (As := [.int (nI n_2), .int (nI n_3)]) (rest := []) ⟨hx, hb, hml, hown, hts⟩ (k_X1_marksOf l G S (t := j_1) (by omega) (n := n_2) (w := n_3) (by omega) (by omega)) (cwV 2 hts gX2_marks_X1_marksOf rfl rfl rfl (by decide +kernel) ⟨Nat.le_of_ble_eq_true rfl, Nat.le_of_ble_eq_true rfl⟩) ⟨cP_blind, c_recv hW hK (k := (3 * j_1)) (ci := 1) (cw_T (t := j_1) (by omega)) rfl, cP_at hW hK hS⟩ rfl rfl hl.1 rfl (lv_room (Nat.le_of_ble_eq_true rfl)) dX2_marks_31 ⟨Nat.le_of_ble_eq_true rfl, Nat.le_of_ble_eq_true rfl⟩) (fun r_4 hr_4 => ?_)
  have hr_4 : r_4 = S.2 (3 * j_1 + 2) (n_2 * 3 + n_3) := hr_4
  subst hr_4
  refine vx_ret ?_
  refine W.widen (k := 8) (n := 48) (by omega) (by omega) ?_
  exact W.lret (v := S.2 (3 * j_1 + 2) (n_2 * 3 + n_3)) hx hb hr (fun t9 ht9 _ => ⟨_, rfl, ⟨(by unfold cdMarks; (try simp only [cn_j_1, cn_n_2, cn_n_3]); rw [if_pos (inB_nI hj_1 (by omega)), if_pos h_12, if_neg h_16, if_pos (inB_nI hn_3 (by omega))]), by first | (rfl; done) | (simp only [cn_j_1, cn_n_2, cn_n_3]; done) | (simp only [cn_j_1, cn_n_2, cn_n_3]; rfl)⟩, ht9⟩) (fun _ h => by cases h) dX2_marks_34

set_option maxHeartbeats 4000000 in
set_option maxRecDepth 100000 in
theorem k_X2_nodes (l : Launch) (hlt : l.stackTraces = false) (G : GT) (S : SS) {rc : Nat} (hrc : S.1 139 4 = nI rc) (h40 : rc ≤ 40) (x y : Int32) : vx_Met l yX2_nodes wsX2_nodes ({ frames := 8, cells := 8, slots := 48, locals := 125 } : Room) (va_Pc [.ref (gA G 139), .int x, .int y] (cP G S)) (vp_Sl (fun r => cdNodes S rc x y = 0 ∧ r = anNodes S x y)) (xT (fun E => E = eX (cdNodes S rc x y) ∧ ¬ cdNodes S rc x y = 0)) 8 48 (fun _ => False) := by
  refine vx_ofW (cc := cX2_nodes) (maxL := 4) (ret := (some .long)) (by decide) rfl ?_
  intro p e s m args below meth c s₁ B hml hout hv
  obtain ⟨rfl, hW, hK⟩ := hv
  have hx := B.exec
  have hb := B.bytes
  have hr := B.returns
  have hts := atoms_spec (ws := wsX2_nodes) B.pre
  have hown : s.vm.findClass RX2 = some m.cls := findClass_of_methodNamed B.named
  have hlocks := B.notSynchronized
  have hS : va_S (gF G s.heap.size) s.heap s.heap [] := va_S.rf
  have inX0 : ∀ w ∈ u_ws RX0 TX0 10, w ∈ wsX2_nodes := by decide +kernel
  have inX1 : ∀ w ∈ u_ws RX1 TX1 3, w ∈ wsX2_nodes := by decide +kernel
  have inX2 : ∀ w ∈ u_ws RX2 TX2 10, w ∈ wsX2_nodes := by decide +kernel
  have hl := lv_entry ([.ref (gA G 139), .int x, .int y]) (n := 4) (Nat.le_of_ble_eq_true rfl)
  rw [lg_entry_eq]
  generalize (lg_sl ([.ref (gA G 139), .int x, .int y]) ++ List.replicate (4 - (lg_sl ([.ref (gA G 139), .int x, .int y])).length) Slot.unset).toArray = ls at hl ⊢
  have hl : lv_has ls 4 [(0, .ref (gA G 139)), (1, .int x), (2, .int y)] := hl
  refine lv_aload_n hx hb dX2_nodes_0 rfl (lv_at hl 0 rfl) ?_
  refine lv_iload_n hx hb dX2_nodes_1 rfl (lv_at hl 1 rfl) ?_
  refine tv_r (vx_runV (As := [.int x]) (rest := []) ⟨hx, hb, hml, hown, hts⟩ (k_X2_peerOf l hlt G S x) (cwV 1 hts gX2_nodes_X2_peerOf rfl rfl rfl (by decide +kernel) ⟨Nat.le_of_ble_eq_true rfl, Nat.le_of_ble_eq_true rfl⟩) ⟨cP_blind, c_recv hW hK (k := 139) (ci := 2) cw_O rfl, cP_at hW hK hS⟩ rfl rfl hl.1 rfl (lv_room (Nat.le_of_ble_eq_true rfl)) dX2_nodes_2 ⟨Nat.le_of_ble_eq_true rfl, Nat.le_of_ble_eq_true rfl⟩) hout hlocks (fun E hE => thr_of (k := 1) (by unfold cdNodes; rw [if_neg (isP_no hE.2)]) hE.1 (by decide)) (Nat.le_of_ble_eq_true rfl) (Nat.le_of_ble_eq_true rfl) (fun k_1 h_2 => ?_)
  obtain ⟨i_2, hi_2, rfl, rfl⟩ := h_2
  have cn_i_2 : cn (nI i_2) = i_2 := cn_nI (by omega)
  refine lv_astore_n (lv' := [(3, .ref (gA G (129 + 5 * i_2))), (0, .ref (gA G 139)), (1, .int (nI i_2)), (2, .int y)]) hx hb dX2_nodes_5 rfl hl (by decide) rfl (fun ls hl => ?_)
  refine lv_iload_n hx hb dX2_nodes_6 rfl (lv_at hl 3 rfl) ?_
  refine lv_iconst (v := (-1)) hx hb dX2_nodes_7 (by decide) ?_
  refine lv_icmp_ne (tgt := 32) hx hb dX2_nodes_8 (by decide) (fun c_8 => ?_) (fun c_8 => ?_)
  · refine lv_aload_n hx hb dX2_nodes_32 rfl (lv_at hl 1 rfl) ?_
    refine lv_aload_n hx hb dX2_nodes_33 rfl (lv_at hl 0 rfl) ?_
    refine lv_iload_n hx hb dX2_nodes_34 rfl (lv_at hl 3 rfl) ?_
    refine tv_v (vx_runV (As := [.ref (gA G (129 + 5 * i_2)), .int y]) (rest := []) ⟨hx, hb, hml, hown, hts⟩ (k_X2_requireHeld l hlt G S (rc := rc) hrc (by omega) (i := i_2) (by omega) y) (cwV 2 hts gX2_nodes_X2_requireHeld rfl rfl rfl (by decide +kernel) ⟨Nat.le_of_ble_eq_true rfl, Nat.le_of_ble_eq_true rfl⟩) ⟨cP_blind, c_recv hW hK (k := 139) (ci := 2) cw_O rfl, cP_at hW hK hS⟩ rfl rfl hl.1 rfl (lv_room (Nat.le_of_ble_eq_true rfl)) dX2_nodes_35 ⟨Nat.le_of_ble_eq_true rfl, Nat.le_of_ble_eq_true rfl⟩) hout hlocks (fun E hE => thr_of (k := 1) (by unfold cdNodes; (try simp only [cn_i_2]); rw [if_pos (isP_nI hi_2), if_neg c_8, if_neg (heldB_no (by omega) hE.2)]) hE.1 (by decide)) (Nat.le_of_ble_eq_true rfl) (Nat.le_of_ble_eq_true rfl) (fun h_35 => ?_)
    obtain ⟨j_3, hj_3, rfl, hb_35⟩ := h_35
    have cn_j_3 : cn (nI j_3) = j_3 := cn_nI (by omega)
    refine lv_aload_n hx hb dX2_nodes_38 rfl (lv_at hl 1 rfl) ?_
    refine va_get (D := gD G) (ci := 2) (v := .ref (gA G 140)) (C := RX2) (T := TX2) (N := 10) hx hb hts inX2 hown hK.1 hW 139 cw_O rfl 2 (by decide) (hts (.fieldLink RX2 21 "MarkedTrees" "trees" "[LMarkedTrees$Tree;") (by decide +kernel)) (fun _ h9 => h9) rfl dX2_nodes_39 ?_
    refine lv_iload_n hx hb dX2_nodes_42 rfl (lv_at hl 3 rfl) ?_
    refine nv_aald hx hb hK.1 hW 140 3 cw_R rfl (i := j_3) (b := gA G (3 * j_3)) (by omega) (by decide) rfl dX2_nodes_43 ?_
    refine va_get (D := gD G) (ci := 1) (v := .int (S.1 (3 * j_3) 0)) (C := RX1) (T := TX1) (N := 3) hx hb hts inX1 hown hK.1 hW (3 * j_3) (cw_T (t := j_3) (by omega)) rfl 0 (by decide) (hts (.fieldLink RX2 221 "MarkedTrees$Tree" "alive" "I") (by decide +kernel)) (fun _ h9 => h9) rfl dX2_nodes_44 ?_
    refine lv_i2l (v := (S.1 (3 * j_3) 0).toInt64) hx hb dX2_nodes_47 rfl ?_
    refine vx_ret ?_
    refine W.widen (k := 8) (n := 48) (by omega) (by omega) ?_
    exact W.lret (v := (S.1 (3 * j_3) 0).toInt64) hx hb hr (fun t9 ht9 _ => ⟨_, rfl, ⟨(by unfold cdNodes; (try simp only [cn_i_2, cn_j_3]); rw [if_pos (isP_nI hi_2), if_neg c_8, if_pos (heldB_nI hj_3 (by omega) hb_35)]), by (try simp only [cn_i_2, cn_j_3]); unfold anNodes; (try simp only [cn_i_2, cn_j_3]); rw [if_neg c_8]⟩, ht9⟩) (fun _ h => by cases h) dX2_nodes_48
  · refine lv_aload_n hx hb dX2_nodes_11 rfl (lv_at hl 0 rfl) ?_
    refine va_get (D := gD G) (ci := 0) (v := .int (S.1 (129 + 5 * i_2) 4)) (C := RX0) (T := TX0) (N := 10) hx hb hts inX0 hown hK.1 hW (129 + 5 * i_2) (cw_P (i := i_2) (by omega)) rfl 4 (by decide) (hts (.fieldLink RX2 63 "MarkedTrees$Peer" "base" "I") (by decide +kernel)) (fun _ h9 => h9) rfl dX2_nodes_12 ?_
    refine lv_iconst (v := (-1)) hx hb dX2_nodes_15 (by decide) ?_
    refine lv_icmp_ne (tgt := 23) hx hb dX2_nodes_16 (by decide) (fun c_16 => ?_) (fun c_16 => ?_)
    · refine lv_aload_n hx hb dX2_nodes_23 rfl (lv_at hl 0 rfl) ?_
      refine va_get (D := gD G) (ci := 0) (v := .ref (gA G (3 * (41 + i_2)))) (C := RX0) (T := TX0) (N := 10) hx hb hts inX0 hown hK.1 hW (129 + 5 * i_2) (cw_P (i := i_2) (by omega)) rfl 3 (by decide) (hts (.fieldLink RX2 56 "MarkedTrees$Peer" "workspace" "LMarkedTrees$Tree;") (by decide +kernel)) (fun _ h9 => h9) rfl dX2_nodes_24 ?_
      refine va_get (D := gD G) (ci := 1) (v := .int (S.1 (3 * (41 + i_2)) 0)) (C := RX1) (T := TX1) (N := 3) hx hb hts inX1 hown hK.1 hW (3 * (41 + i_2)) (cw_T (t := 41 + i_2) (by omega)) rfl 0 (by decide) (hts (.fieldLink RX2 221 "MarkedTrees$Tree" "alive" "I") (by decide +kernel)) (fun _ h9 => h9) rfl dX2_nodes_27 ?_
      refine lv_i2l (v := (S.1 (3 * (41 + i_2)) 0).toInt64) hx hb dX2_nodes_30 rfl ?_
      refine vx_ret ?_
      refine W.widen (k := 8) (n := 48) (by omega) (by omega) ?_
      exact W.lret (v := (S.1 (3 * (41 + i_2)) 0).toInt64) hx hb hr (fun t9 ht9 _ => ⟨_, rfl, ⟨(by unfold cdNodes; (try simp only [cn_i_2]); rw [if_pos (isP_nI hi_2), if_pos c_8]), by unfold anNodes; (try simp only [cn_i_2]); rw [if_pos c_8, if_neg c_16]⟩, ht9⟩) (fun _ h => by cases h) dX2_nodes_31
    · refine lv_lconst (v := 0) hx hb dX2_nodes_19 (by decide) ?_
      refine lv_goto (tgt := 31) hx hb dX2_nodes_20 (by decide) ?_
      refine vx_ret ?_
      refine W.widen (k := 8) (n := 48) (by omega) (by omega) ?_
      exact W.lret (v := 0) hx hb hr (fun t9 ht9 _ => ⟨_, rfl, ⟨(by unfold cdNodes; (try simp only [cn_i_2]); rw [if_pos (isP_nI hi_2), if_pos c_8]), by unfold anNodes; (try simp only [cn_i_2]); rw [if_pos c_8, if_pos c_16]⟩, ht9⟩) (fun _ h => by cases h) dX2_nodes_31

set_option maxHeartbeats 4000000 in
set_option maxRecDepth 100000 in
theorem k_X2_ancestors (l : Launch) (hlt : l.stackTraces = false) (G : GT) (S : SS) {rc : Nat} (hrc : S.1 139 4 = nI rc) (h40 : rc ≤ 40) (x : Int32) : vx_Met l yX2_ancestors wsX2_ancestors ({ frames := 7, cells := 8, slots := 48, locals := 103 } : Room) (va_Pc [.ref (gA G 139), .int x] (cP G S)) (vp_Sl (fun r => cdAnc rc x = 0 ∧ r = S.2 141 (cn x))) (xT (fun E => E = eX (cdAnc rc x) ∧ ¬ cdAnc rc x = 0)) 8 48 (fun _ => False) := by
  refine vx_ofW (cc := cX2_ancestors) (maxL := 2) (ret := (some .long)) (by decide) rfl ?_
  intro p e s m args below meth c s₁ B hml hout hv
  obtain ⟨rfl, hW, hK⟩ := hv
  have hx := B.exec
  have hb := B.bytes
  have hr := B.returns
  have hts := atoms_spec (ws := wsX2_ancestors) B.pre
  have hown : s.vm.findClass RX2 = some m.cls := findClass_of_methodNamed B.named
  have hlocks := B.notSynchronized
  have hS : va_S (gF G s.heap.size) s.heap s.heap [] := va_S.rf
  have inX2 : ∀ w ∈ u_ws RX2 TX2 10, w ∈ wsX2_ancestors := by decide +kernel
  have hl := lv_entry ([.ref (gA G 139), .int x]) (n := 2) (Nat.le_of_ble_eq_true rfl)
  rw [lg_entry_eq]
  generalize (lg_sl ([.ref (gA G 139), .int x]) ++ List.replicate (2 - (lg_sl ([.ref (gA G 139), .int x])).length) Slot.unset).toArray = ls at hl ⊢
  have hl : lv_has ls 2 [(0, .ref (gA G 139)), (1, .int x)] := hl
  refine lv_aload_n hx hb dX2_ancestors_0 rfl (lv_at hl 0 rfl) ?_
  refine lv_iload_n hx hb dX2_ancestors_1 rfl (lv_at hl 1 rfl) ?_
  refine tv_v (vx_runV (As := [.int x]) (rest := []) ⟨hx, hb, hml, hown, hts⟩ (k_X2_requireRevision l hlt G S (rc := rc) hrc (by omega) x) (cwV 1 hts gX2_ancestors_X2_requireRevision rfl rfl rfl (by decide +kernel) ⟨Nat.le_of_ble_eq_true rfl, Nat.le_of_ble_eq_true rfl⟩) ⟨cP_blind, c_recv hW hK (k := 139) (ci := 2) cw_O rfl, cP_at hW hK hS⟩ rfl rfl hl.1 rfl (lv_room (Nat.le_of_ble_eq_true rfl)) dX2_ancestors_2 ⟨Nat.le_of_ble_eq_true rfl, Nat.le_of_ble_eq_true rfl⟩) hout hlocks (fun E hE => thr_of (k := 1) (by unfold cdAnc; rw [if_neg (fun h9 => hE.2 ((inB_iff (by omega)).mp h9))]) hE.1 (by decide)) (Nat.le_of_ble_eq_true rfl) (Nat.le_of_ble_eq_true rfl) (fun h_2 => ?_)
  obtain ⟨j_1, hj_1, rfl⟩ := h_2
  have cn_j_1 : cn (nI j_1) = j_1 := cn_nI (by omega)
  refine lv_aload_n hx hb dX2_ancestors_5 rfl (lv_at hl 0 rfl) ?_
  refine va_get (D := gD G) (ci := 2) (v := .ref (gA G 141)) (C := RX2) (T := TX2) (N := 10) hx hb hts inX2 hown hK.1 hW 139 cw_O rfl 3 (by decide) (hts (.fieldLink RX2 25 "MarkedTrees" "older" "[J") (by decide +kernel)) (fun _ h9 => h9) rfl dX2_ancestors_6 ?_
  refine lv_iload_n hx hb dX2_ancestors_9 rfl (lv_at hl 1 rfl) ?_
  refine nv_lald hx hb hK.1 hW 141 1 cw_A rfl (i := j_1) (by omega) (by decide) dX2_ancestors_10 ?_
  refine vx_ret ?_
  refine W.widen (k := 8) (n := 48) (by omega) (by omega) ?_
  exact W.lret (v := S.2 141 j_1) hx hb hr (fun t9 ht9 _ => ⟨_, rfl, ⟨(by unfold cdAnc; (try simp only [cn_j_1]); rw [if_pos (inB_nI hj_1 (by omega))]), by first | (rfl; done) | (simp only [cn_j_1]; done) | (simp only [cn_j_1]; rfl)⟩, ht9⟩) (fun _ h => by cases h) dX2_ancestors_11

set_option maxHeartbeats 4000000 in
set_option maxRecDepth 100000 in
theorem k_X2_certify (l : Launch) (hlt : l.stackTraces = false) (G : GT) (S : SS) (sz : Nat) {rc : Nat} (hrc : S.1 139 4 = nI rc) (h40 : rc ≤ 40) (x y z w : Int32) : vx_Met l yX2_certify wsX2_certify ({ frames := 8, cells := 8, slots := 48, locals := 125 } : Room) (va_Pc [.ref (gA G 139), .int x, .int y, .int z, .int w] (fun U => U.heap.size = sz ∧ cP G S U)) (va_Qi (fun r S' => cdCertify S rc x y z w = 0 ∧ r = bI (!tb (S.2 (130 + 5 * cn x) (cn z * 3 + cn w)) (cn y)) ∧ S' = s2 S (130 + 5 * cn x) (cn z * 3 + cn w) (S.2 (130 + 5 * cn x) (cn z * 3 + cn w) ||| b64 (cn y))) (cB G) (gF G sz)) (xT (fun E => E = eX (cdCertify S rc x y z w) ∧ ¬ cdCertify S rc x y z w = 0)) 8 48 (gF G sz) := by
  refine vx_ofW (cc := cX2_certify) (maxL := 8) (ret := (some .boolean)) (by decide) rfl ?_
  intro p e s m args below meth c s₁ B hml hout hv
  obtain ⟨rfl, hsz, hW, hK⟩ := hv
  subst hsz
  have hx := B.exec
  have hb := B.bytes
  have hr := B.returns
  have hts := atoms_spec (ws := wsX2_certify) B.pre
  have hown : s.vm.findClass RX2 = some m.cls := findClass_of_methodNamed B.named
  have hlocks := B.notSynchronized
  have hS : va_S (gF G s.heap.size) s.heap s.heap [] := va_S.rf
  have inX0 : ∀ w ∈ u_ws RX0 TX0 10, w ∈ wsX2_certify := by decide +kernel
  have hl := lv_entry ([.ref (gA G 139), .int x, .int y, .int z, .int w]) (n := 8) (Nat.le_of_ble_eq_true rfl)
  rw [lg_entry_eq]
  generalize (lg_sl ([.ref (gA G 139), .int x, .int y, .int z, .int w]) ++ List.replicate (8 - (lg_sl ([.ref (gA G 139), .int x, .int y, .int z, .int w])).length) Slot.unset).toArray = ls at hl ⊢
  have hl : lv_has ls 8 [(0, .ref (gA G 139)), (1, .int x), (2, .int y), (3, .int z), (4, .int w)] := hl
  refine lv_aload_n hx hb dX2_certify_0 rfl (lv_at hl 0 rfl) ?_
  refine lv_iload_n hx hb dX2_certify_1 rfl (lv_at hl 1 rfl) ?_
  refine tv_r (vx_runV (As := [.int x]) (rest := []) ⟨hx, hb, hml, hown, hts⟩ (k_X2_peerOf l hlt G S x) (cwV 1 hts gX2_certify_X2_peerOf rfl rfl rfl (by decide +kernel) ⟨Nat.le_of_ble_eq_true rfl, Nat.le_of_ble_eq_true rfl⟩) ⟨cP_blind, c_recv hW hK (k := 139) (ci := 2) cw_O rfl, cP_at hW hK hS⟩ rfl rfl hl.1 rfl (lv_room (Nat.le_of_ble_eq_true rfl)) dX2_certify_2 ⟨Nat.le_of_ble_eq_true rfl, Nat.le_of_ble_eq_true rfl⟩) hout hlocks (fun E hE => thr_of (k := 1) (by unfold cdCertify; rw [if_neg (isP_no hE.2)]) hE.1 (by decide)) (Nat.le_of_ble_eq_true rfl) (Nat.le_of_ble_eq_true rfl) (fun k_1 h_2 => ?_)
  obtain ⟨i_2, hi_2, rfl, rfl⟩ := h_2
  have cn_i_2 : cn (nI i_2) = i_2 := cn_nI (by omega)
  refine lv_astore (lv' := [(5, .ref (gA G (129 + 5 * i_2))), (0, .ref (gA G 139)), (1, .int (nI i_2)), (2, .int y), (3, .int z), (4, .int w)]) hx hb dX2_certify_5 hl (by decide) rfl (fun ls hl => ?_)
  refine lv_aload_n hx hb dX2_certify_7 rfl (lv_at hl 1 rfl) ?_
  refine lv_aload hx hb dX2_certify_8 (lv_at hl 0 rfl) ?_
  refine lv_iload_n hx hb dX2_certify_10 rfl (lv_at hl 3 rfl) ?_
  refine tv_v (vx_runV (As := [.ref (gA G (129 + 5 * i_2)), .int y]) (rest := []) ⟨hx, hb, hml, hown, hts⟩ (k_X2_requireHeld l hlt G S (rc := rc) hrc (by omega) (i := i_2) (by omega) y) (cwV 2 hts gX2_certify_X2_requireHeld rfl rfl rfl (by decide +kernel) ⟨Nat.le_of_ble_eq_true rfl, Nat.le_of_ble_eq_true rfl⟩) ⟨cP_blind, c_recv hW hK (k := 139) (ci := 2) cw_O rfl, cP_at hW hK hS⟩ rfl rfl hl.1 rfl (lv_room (Nat.le_of_ble_eq_true rfl)) dX2_certify_11 ⟨Nat.le_of_ble_eq_true rfl, Nat.le_of_ble_eq_true rfl⟩) hout hlocks (fun E hE => thr_of (k := 1) (by unfold cdCertify; (try simp only [cn_i_2]); rw [if_pos (isP_nI hi_2), if_neg (heldB_no (by omega) hE.2)]) hE.1 (by decide)) (Nat.le_of_ble_eq_true rfl) (Nat.le_of_ble_eq_true rfl) (fun h_11 => ?_)
  obtain ⟨j_3, hj_3, rfl, hb_11⟩ := h_11
  have cn_j_3 : cn (nI j_3) = j_3 := cn_nI (by omega)
  refine lv_iload_n hx hb dX2_certify_14 rfl (lv_at hl 4 rfl) ?_
  refine tv_v (vx_runS (As := [.int z]) (rest := []) ⟨hx, hb, hml, hown, hts⟩ (k_X2_requireKey l hlt G S z) (va_cwS 1 hts gX2_certify_X2_requireKey rfl rfl rfl (by decide +kernel) ⟨Nat.le_of_ble_eq_true rfl, Nat.le_of_ble_eq_true rfl⟩) ⟨cP_blind, cP_at hW hK hS⟩ rfl rfl hl.1 rfl (lv_room (Nat.le_of_ble_eq_true rfl)) dX2_certify_15 ⟨Nat.le_of_ble_eq_true rfl, Nat.le_of_ble_eq_true rfl⟩) hout hlocks (fun E hE => thr_of (k := 1) (by unfold cdCertify; (try simp only [cn_i_2, cn_j_3]); rw [if_pos (isP_nI hi_2), if_pos (heldB_nI hj_3 (by omega) hb_11), if_neg (fun h9 => hE.2 ((inB_iff (by decide)).mp h9))]) hE.1 (by decide)) (Nat.le_of_ble_eq_true rfl) (Nat.le_of_ble_eq_true rfl) (fun h_15 => ?_)
  obtain ⟨n_4, hn_4, rfl⟩ := h_15
  have cn_n_4 : cn (nI n_4) = n_4 := cn_nI (by omega)
  refine lv_iload hx hb dX2_certify_18 (lv_at hl 5 rfl) ?_
  refine tv_v (vx_runS (As := [.int w]) (rest := []) ⟨hx, hb, hml, hown, hts⟩ (k_X2_requireBranch l hlt G S w) (va_cwS 1 hts gX2_certify_X2_requireBranch rfl rfl rfl (by decide +kernel) ⟨Nat.le_of_ble_eq_true rfl, Nat.le_of_ble_eq_true rfl⟩) ⟨cP_blind, cP_at hW hK hS⟩ rfl rfl hl.1 rfl (lv_room (Nat.le_of_ble_eq_true rfl)) dX2_certify_20 ⟨Nat.le_of_ble_eq_true rfl, Nat.le_of_ble_eq_true rfl⟩) hout hlocks (fun E hE => thr_of (k := 1) (by unfold cdCertify; (try simp only [cn_i_2, cn_j_3, cn_n_4]); rw [if_pos (isP_nI hi_2), if_pos (heldB_nI hj_3 (by omega) hb_11), if_pos (inB_nI hn_4 (by omega)), if_neg (fun h9 => hE.2 ((inB_iff (by decide)).mp h9))]) hE.1 (by decide)) (Nat.le_of_ble_eq_true rfl) (Nat.le_of_ble_eq_true rfl) (fun h_20 => ?_)
  obtain ⟨n_5, hn_5, rfl⟩ := h_20
  have cn_n_5 : cn (nI n_5) = n_5 := cn_nI (by omega)
  refine lv_iload_n hx hb dX2_certify_23 rfl (lv_at hl 4 rfl) ?_
  refine lv_iload hx hb dX2_certify_24 (lv_at hl 5 rfl) ?_
  refine pv_i (va_runS (As := [.int (nI n_4), .int (nI n_5)]) (rest := []) ⟨hx, hb, hml, hown, hts⟩ (k_X2_certificateKind l n_4 n_5) (va_cwS 2 hts gX2_certify_X2_certificateKind rfl rfl rfl (by decide +kernel) ⟨Nat.le_of_ble_eq_true rfl, Nat.le_of_ble_eq_true rfl⟩) ⟨(fun _ _ _ _ h => h), fun U _ _ => ⟨rfl, trivial⟩⟩ rfl rfl hl.1 rfl (lv_room (Nat.le_of_ble_eq_true rfl)) dX2_certify_26 ⟨Nat.le_of_ble_eq_true rfl, Nat.le_of_ble_eq_true rfl⟩) (fun r_6 hr_6 => ?_)
  have hr_6 : r_6 = nI (n_4 * 3 + n_5) := hr_6
  subst hr_6
  refine lv_istore (lv' := [(6, .int (nI (n_4 * 3 + n_5))), (5, .ref (gA G (129 + 5 * i_2))), (0, .ref (gA G 139)), (1, .int (nI i_2)), (2, .int (nI j_3)), (3, .int (nI n_4)), (4, .int (nI n_5))]) hx hb dX2_certify_29 hl (by decide) rfl (fun ls hl => ?_)
  refine lv_aload hx hb dX2_certify_31 (lv_at hl 1 rfl) ?_
  refine va_get (D := gD G) (ci := 0) (v := .ref (gA G (130 + 5 * i_2))) (C := RX0) (T := TX0) (N := 10) hx hb hts inX0 hown hK.1 hW (129 + 5 * i_2) (cw_P (i := i_2) (by omega)) rfl 1 (by decide) (hts (.fieldLink RX2 233 "MarkedTrees$Peer" "certificates" "[J") (by decide +kernel)) (fun _ h9 => h9) rfl dX2_certify_33 ?_
  refine lv_iload hx hb dX2_certify_36 (lv_at hl 0 rfl) ?_
  refine nv_lald hx hb hK.1 hW (130 + 5 * i_2) 1 (cw_C (i := i_2) (by omega)) rfl (i := n_4 * 3 + n_5) (by omega) (by decide) dX2_certify_38 ?_
  refine lv_iload_n hx hb dX2_certify_39 rfl (lv_at hl 4 rfl) ?_
  refine pv_i (va_runS (As := [.long (S.2 (130 + 5 * i_2) (n_4 * 3 + n_5)), .int (nI j_3)]) (rest := []) ⟨hx, hb, hml, hown, hts⟩ (k_X2_isIn l (S.2 (130 + 5 * i_2) (n_4 * 3 + n_5)) (k := j_3) (by omega)) (va_cwS 2 hts gX2_certify_X2_isIn rfl rfl rfl (by decide +kernel) ⟨Nat.le_of_ble_eq_true rfl, Nat.le_of_ble_eq_true rfl⟩) ⟨(fun _ _ _ _ h => h), fun U _ _ => ⟨rfl, trivial⟩⟩ rfl rfl hl.1 rfl (lv_room (Nat.le_of_ble_eq_true rfl)) dX2_certify_40 ⟨Nat.le_of_ble_eq_true rfl, Nat.le_of_ble_eq_true rfl⟩) (fun r_7 hr_7 => ?_)
  have hr_7 : r_7 = bI (tb (S.2 (130 + 5 * i_2) (n_4 * 3 + n_5)) j_3) := hr_7
  subst hr_7
  refine bv_if_ne (b := tb (S.2 (130 + 5 * i_2) (n_4 * 3 + n_5)) j_3) (tgt := 50) hx hb dX2_certify_43 (by decide) (fun c_43 => ?_) (fun c_43 => ?_)
  · refine lv_iconst (v := nI 0) hx hb dX2_certify_50 (by decide) ?_
    refine lv_istore (lv' := [(7, .int (nI 0)), (6, .int (nI (n_4 * 3 + n_5))), (5, .ref (gA G (129 + 5 * i_2))), (0, .ref (gA G 139)), (1, .int (nI i_2)), (2, .int (nI j_3)), (3, .int (nI n_4)), (4, .int (nI n_5))]) hx hb dX2_certify_51 hl (by decide) rfl (fun ls hl => ?_)
    refine lv_aload hx hb dX2_certify_53 (lv_at hl 2 rfl) ?_
    refine va_get (D := gD G) (ci := 0) (v := .ref (gA G (130 + 5 * i_2))) (C := RX0) (T := TX0) (N := 10) hx hb hts inX0 hown hK.1 hW (129 + 5 * i_2) (cw_P (i := i_2) (by omega)) rfl 1 (by decide) (hts (.fieldLink RX2 233 "MarkedTrees$Peer" "certificates" "[J") (by decide +kernel)) (fun _ h9 => h9) rfl dX2_certify_55 ?_
    refine lv_iload hx hb dX2_certify_58 (lv_at hl 1 rfl) ?_
    refine lv_dup2_11 hx hb dX2_certify_60 rfl rfl ?_
    refine nv_lald hx hb hK.1 hW (130 + 5 * i_2) 1 (cw_C (i := i_2) (by omega)) rfl (i := n_4 * 3 + n_5) (by omega) (by decide) dX2_certify_61 ?_
    refine lv_lconst (v := 1) hx hb dX2_certify_62 (by decide) ?_
    refine lv_iload_n hx hb dX2_certify_63 rfl (lv_at hl 5 rfl) ?_
    refine lv_lshl (v := 1 <<< ((nI j_3).toInt64 &&& 63)) hx hb dX2_certify_64 rfl ?_
    refine lv_lor hx hb dX2_certify_65 ?_
    refine nv_last hx hb hK.1 hW (wl_D hK.2.1) hS (130 + 5 * i_2) 1 (cw_C (i := i_2) (by omega)) rfl (i := n_4 * 3 + n_5) (by omega) (by decide) dX2_certify_66 (fun H locs hW hS => ?_)
    have hW : cW G (s2 S (130 + 5 * i_2) (n_4 * 3 + n_5) ((S.2 (130 + 5 * i_2) (n_4 * 3 + n_5)) ||| (1 <<< ((nI j_3).toInt64 &&& 63)))) H := cp_C (by omega) hW
    obtain ⟨S_8, eS_8⟩ : ∃ z, z = s2 S (130 + 5 * i_2) (n_4 * 3 + n_5) ((S.2 (130 + 5 * i_2) (n_4 * 3 + n_5)) ||| (1 <<< ((nI j_3).toInt64 &&& 63))) := ⟨_, rfl⟩
    rw [← eS_8] at hW
    refine lv_iload hx hb dX2_certify_67 (lv_at hl 0 rfl) ?_
    refine vx_ret ?_
    refine W.widen (k := 8) (n := 48) (by omega) (by omega) ?_
    exact W.zret (v := nI 0) hx hb hr rfl (fun t9 ht9 _ => ⟨⟨_, S_8, rfl, ⟨(by unfold cdCertify; (try simp only [cn_i_2, cn_j_3, cn_n_4, cn_n_5]); rw [if_pos (isP_nI hi_2), if_pos (heldB_nI hj_3 (by omega) hb_11), if_pos (inB_nI hn_4 (by omega)), if_pos (inB_nI hn_5 (by omega))]), by (try simp only [cn_i_2, cn_j_3, cn_n_4, cn_n_5]); exact bI_i0 (by rw [c_43]; rfl), by (try simp only [cn_i_2, cn_j_3, cn_n_4, cn_n_5]); exact eS_8⟩, (show cW G S_8 t9.heap by rw [ht9]; exact hW)⟩, hS.F ht9⟩) hS.2.2 dX2_certify_69
  · refine lv_iconst (v := nI 1) hx hb dX2_certify_46 (by decide) ?_
    refine lv_goto (tgt := 51) hx hb dX2_certify_47 (by decide) ?_
    refine lv_istore (lv' := [(7, .int (nI 1)), (6, .int (nI (n_4 * 3 + n_5))), (5, .ref (gA G (129 + 5 * i_2))), (0, .ref (gA G 139)), (1, .int (nI i_2)), (2, .int (nI j_3)), (3, .int (nI n_4)), (4, .int (nI n_5))]) hx hb dX2_certify_51 hl (by decide) rfl (fun ls hl => ?_)
    refine lv_aload hx hb dX2_certify_53 (lv_at hl 2 rfl) ?_
    refine va_get (D := gD G) (ci := 0) (v := .ref (gA G (130 + 5 * i_2))) (C := RX0) (T := TX0) (N := 10) hx hb hts inX0 hown hK.1 hW (129 + 5 * i_2) (cw_P (i := i_2) (by omega)) rfl 1 (by decide) (hts (.fieldLink RX2 233 "MarkedTrees$Peer" "certificates" "[J") (by decide +kernel)) (fun _ h9 => h9) rfl dX2_certify_55 ?_
    refine lv_iload hx hb dX2_certify_58 (lv_at hl 1 rfl) ?_
    refine lv_dup2_11 hx hb dX2_certify_60 rfl rfl ?_
    refine nv_lald hx hb hK.1 hW (130 + 5 * i_2) 1 (cw_C (i := i_2) (by omega)) rfl (i := n_4 * 3 + n_5) (by omega) (by decide) dX2_certify_61 ?_
    refine lv_lconst (v := 1) hx hb dX2_certify_62 (by decide) ?_
    refine lv_iload_n hx hb dX2_certify_63 rfl (lv_at hl 5 rfl) ?_
    refine lv_lshl (v := 1 <<< ((nI j_3).toInt64 &&& 63)) hx hb dX2_certify_64 rfl ?_
    refine lv_lor hx hb dX2_certify_65 ?_
    refine nv_last hx hb hK.1 hW (wl_D hK.2.1) hS (130 + 5 * i_2) 1 (cw_C (i := i_2) (by omega)) rfl (i := n_4 * 3 + n_5) (by omega) (by decide) dX2_certify_66 (fun H locs hW hS => ?_)
    have hW : cW G (s2 S (130 + 5 * i_2) (n_4 * 3 + n_5) ((S.2 (130 + 5 * i_2) (n_4 * 3 + n_5)) ||| (1 <<< ((nI j_3).toInt64 &&& 63)))) H := cp_C (by omega) hW
    obtain ⟨S_9, eS_9⟩ : ∃ z, z = s2 S (130 + 5 * i_2) (n_4 * 3 + n_5) ((S.2 (130 + 5 * i_2) (n_4 * 3 + n_5)) ||| (1 <<< ((nI j_3).toInt64 &&& 63))) := ⟨_, rfl⟩
    rw [← eS_9] at hW
    refine lv_iload hx hb dX2_certify_67 (lv_at hl 0 rfl) ?_
    refine vx_ret ?_
    refine W.widen (k := 8) (n := 48) (by omega) (by omega) ?_
    exact W.zret (v := nI 1) hx hb hr rfl (fun t9 ht9 _ => ⟨⟨_, S_9, rfl, ⟨(by unfold cdCertify; (try simp only [cn_i_2, cn_j_3, cn_n_4, cn_n_5]); rw [if_pos (isP_nI hi_2), if_pos (heldB_nI hj_3 (by omega) hb_11), if_pos (inB_nI hn_4 (by omega)), if_pos (inB_nI hn_5 (by omega))]), by (try simp only [cn_i_2, cn_j_3, cn_n_4, cn_n_5]); exact bI_i1 (by rw [c_43]; rfl), by (try simp only [cn_i_2, cn_j_3, cn_n_4, cn_n_5]); exact eS_9⟩, (show cW G S_9 t9.heap by rw [ht9]; exact hW)⟩, hS.F ht9⟩) hS.2.2 dX2_certify_69

set_option maxHeartbeats 4000000 in
set_option maxRecDepth 100000 in
theorem k_X2_trust (l : Launch) (hlt : l.stackTraces = false) (G : GT) (S : SS) (sz : Nat) (x y : Int32) (db : Bool) : vx_Met l yX2_trust wsX2_trust ({ frames := 7, cells := 8, slots := 48, locals := 103 } : Room) (va_Pc [.ref (gA G 139), .int x, .int y, .int (bI db)] (fun U => U.heap.size = sz ∧ cP G S U)) (va_Qi (fun r S' => cdTrust x y = 0 ∧ r = bI (ti (S.1 (129 + 5 * cn x) 2) (cn y)) ∧ S' = doTrust S (cn x) (cn y) db) (cB G) (gF G sz)) (xT (fun E => E = eX (cdTrust x y) ∧ ¬ cdTrust x y = 0)) 8 48 (gF G sz) := by
  refine vx_ofW (cc := cX2_trust) (maxL := 6) (ret := (some .boolean)) (by decide) rfl ?_
  intro p e s m args below meth c s₁ B hml hout hv
  obtain ⟨rfl, hsz, hW, hK⟩ := hv
  subst hsz
  have hx := B.exec
  have hb := B.bytes
  have hr := B.returns
  have hts := atoms_spec (ws := wsX2_trust) B.pre
  have hown : s.vm.findClass RX2 = some m.cls := findClass_of_methodNamed B.named
  have hlocks := B.notSynchronized
  have hS : va_S (gF G s.heap.size) s.heap s.heap [] := va_S.rf
  have inX0 : ∀ w ∈ u_ws RX0 TX0 10, w ∈ wsX2_trust := by decide +kernel
  have hl := lv_entry ([.ref (gA G 139), .int x, .int y, .int (bI db)]) (n := 6) (Nat.le_of_ble_eq_true rfl)
  rw [lg_entry_eq]
  generalize (lg_sl ([.ref (gA G 139), .int x, .int y, .int (bI db)]) ++ List.replicate (6 - (lg_sl ([.ref (gA G 139), .int x, .int y, .int (bI db)])).length) Slot.unset).toArray = ls at hl ⊢
  have hl : lv_has ls 6 [(0, .ref (gA G 139)), (1, .int x), (2, .int y), (3, .int (bI db))] := hl
  refine lv_aload_n hx hb dX2_trust_0 rfl (lv_at hl 0 rfl) ?_
  refine lv_iload_n hx hb dX2_trust_1 rfl (lv_at hl 1 rfl) ?_
  refine tv_r (vx_runV (As := [.int x]) (rest := []) ⟨hx, hb, hml, hown, hts⟩ (k_X2_peerOf l hlt G S x) (cwV 1 hts gX2_trust_X2_peerOf rfl rfl rfl (by decide +kernel) ⟨Nat.le_of_ble_eq_true rfl, Nat.le_of_ble_eq_true rfl⟩) ⟨cP_blind, c_recv hW hK (k := 139) (ci := 2) cw_O rfl, cP_at hW hK hS⟩ rfl rfl hl.1 rfl (lv_room (Nat.le_of_ble_eq_true rfl)) dX2_trust_2 ⟨Nat.le_of_ble_eq_true rfl, Nat.le_of_ble_eq_true rfl⟩) hout hlocks (fun E hE => thr_of (k := 1) (by unfold cdTrust; rw [if_neg (isP_no hE.2)]) hE.1 (by decide)) (Nat.le_of_ble_eq_true rfl) (Nat.le_of_ble_eq_true rfl) (fun k_1 h_2 => ?_)
  obtain ⟨i_2, hi_2, rfl, rfl⟩ := h_2
  have cn_i_2 : cn (nI i_2) = i_2 := cn_nI (by omega)
  refine lv_astore (lv' := [(4, .ref (gA G (129 + 5 * i_2))), (0, .ref (gA G 139)), (1, .int (nI i_2)), (2, .int y), (3, .int (bI db))]) hx hb dX2_trust_5 hl (by decide) rfl (fun ls hl => ?_)
  refine lv_iload_n hx hb dX2_trust_7 rfl (lv_at hl 3 rfl) ?_
  refine tv_v (vx_runS (As := [.int y]) (rest := []) ⟨hx, hb, hml, hown, hts⟩ (k_X2_requireKey l hlt G S y) (va_cwS 1 hts gX2_trust_X2_requireKey rfl rfl rfl (by decide +kernel) ⟨Nat.le_of_ble_eq_true rfl, Nat.le_of_ble_eq_true rfl⟩) ⟨cP_blind, cP_at hW hK hS⟩ rfl rfl hl.1 rfl (lv_room (Nat.le_of_ble_eq_true rfl)) dX2_trust_8 ⟨Nat.le_of_ble_eq_true rfl, Nat.le_of_ble_eq_true rfl⟩) hout hlocks (fun E hE => thr_of (k := 1) (by unfold cdTrust; (try simp only [cn_i_2]); rw [if_pos (isP_nI hi_2), if_neg (fun h9 => hE.2 ((inB_iff (by decide)).mp h9))]) hE.1 (by decide)) (Nat.le_of_ble_eq_true rfl) (Nat.le_of_ble_eq_true rfl) (fun h_8 => ?_)
  obtain ⟨n_3, hn_3, rfl⟩ := h_8
  have cn_n_3 : cn (nI n_3) = n_3 := cn_nI (by omega)
  refine lv_aload hx hb dX2_trust_11 (lv_at hl 0 rfl) ?_
  refine lv_iload_n hx hb dX2_trust_13 rfl (lv_at hl 3 rfl) ?_
  refine pv_i (va_runV (As := [.int (nI n_3)]) (rest := []) ⟨hx, hb, hml, hown, hts⟩ (k_X0_trusts l G S (i := i_2) (by omega) (k := n_3) (by omega)) (cwV 1 hts gX2_trust_X0_trusts rfl rfl rfl (by decide +kernel) ⟨Nat.le_of_ble_eq_true rfl, Nat.le_of_ble_eq_true rfl⟩) ⟨cP_blind, c_recv hW hK (k := (129 + 5 * i_2)) (ci := 0) (cw_P (i := i_2) (by omega)) rfl, cP_at hW hK hS⟩ rfl rfl hl.1 rfl (lv_room (Nat.le_of_ble_eq_true rfl)) dX2_trust_14 ⟨Nat.le_of_ble_eq_true rfl, Nat.le_of_ble_eq_true rfl⟩) (fun r_4 hr_4 => ?_)
  have hr_4 : r_4 = bI (ti (S.1 (129 + 5 * i_2) 2) n_3) := hr_4
  subst hr_4
  refine lv_istore (lv' := [(5, .int (bI (ti (S.1 (129 + 5 * i_2) 2) n_3))), (4, .ref (gA G (129 + 5 * i_2))), (0, .ref (gA G 139)), (1, .int (nI i_2)), (2, .int (nI n_3)), (3, .int (bI db))]) hx hb dX2_trust_17 hl (by decide) rfl (fun ls hl => ?_)
  refine lv_iload_n hx hb dX2_trust_19 rfl (lv_at hl 5 rfl) ?_
  refine bv_if_eq (b := db) (tgt := 39) hx hb dX2_trust_20 (by decide) (fun c_20 => ?_) (fun c_20 => ?_)
  · refine lv_aload hx hb dX2_trust_39 (lv_at hl 1 rfl) ?_
    refine lv_dup hx hb dX2_trust_41 rfl ?_
    refine va_get (D := gD G) (ci := 0) (v := .int (S.1 (129 + 5 * i_2) 2)) (C := RX0) (T := TX0) (N := 10) hx hb hts inX0 hown hK.1 hW (129 + 5 * i_2) (cw_P (i := i_2) (by omega)) rfl 2 (by decide) (hts (.fieldLink RX2 239 "MarkedTrees$Peer" "trustedKeys" "I") (by decide +kernel)) (fun _ h9 => h9) rfl dX2_trust_42 ?_
    refine lv_iconst (v := nI 1) hx hb dX2_trust_45 (by decide) ?_
    refine lv_iload_n hx hb dX2_trust_46 rfl (lv_at hl 4 rfl) ?_
    refine lv_ishl hx hb dX2_trust_47 ?_
    refine lv_iconst (v := (-1)) hx hb dX2_trust_48 (by decide) ?_
    refine lv_ixor hx hb dX2_trust_49 ?_
    refine lv_iand hx hb dX2_trust_50 ?_
    refine va_put (D := gD G) (ci := 0) (v := .int ((S.1 (129 + 5 * i_2) 2) &&& (((nI 1) <<< ((nI n_3) &&& 31)) ^^^ (-1)))) (ty := .int) (C := RX0) (T := TX0) (N := 10) hx hb hts inX0 tyX0 tyX0_ok nmX0 hown hK.1 hW (wl_D hK.2.1) hS (129 + 5 * i_2) (cw_P (i := i_2) (by omega)) rfl 2 (by decide) (hts (.fieldLink RX2 239 "MarkedTrees$Peer" "trustedKeys" "I") (by decide +kernel)) (fun _ h9 => h9) rfl (by decide +kernel) rfl rfl (Nat.le_of_ble_eq_true rfl) dX2_trust_51 (fun H locs hW _ hS => ?_)
    have hW : cW G (s1 S (129 + 5 * i_2) 2 ((S.1 (129 + 5 * i_2) 2) &&& (((nI 1) <<< ((nI n_3) &&& 31)) ^^^ (-1)))) H := cp_P_2 (by omega) hW
    obtain ⟨S_5, eS_5⟩ : ∃ z, z = s1 S (129 + 5 * i_2) 2 ((S.1 (129 + 5 * i_2) 2) &&& (((nI 1) <<< ((nI n_3) &&& 31)) ^^^ (-1))) := ⟨_, rfl⟩
    rw [← eS_5] at hW
    refine lv_iload hx hb dX2_trust_54 (lv_at hl 0 rfl) ?_
    refine vx_ret ?_
    refine W.widen (k := 8) (n := 48) (by omega) (by omega) ?_
    exact W.zret (v := bI (ti (S.1 (129 + 5 * i_2) 2) n_3)) hx hb hr (bI_nar _) (fun t9 ht9 _ => ⟨⟨_, S_5, rfl, ⟨(by unfold cdTrust; (try simp only [cn_i_2, cn_n_3]); rw [if_pos (isP_nI hi_2), if_pos (inB_nI hn_3 (by omega))]), by first | (rfl; done) | (simp only [cn_i_2, cn_n_3]; done) | (simp only [cn_i_2, cn_n_3]; rfl), by (try simp only [cn_i_2, cn_n_3]); unfold doTrust; rw [if_neg (ne_true_of_eq_false c_20)]; exact eS_5⟩, (show cW G S_5 t9.heap by rw [ht9]; exact hW)⟩, hS.F ht9⟩) hS.2.2 dX2_trust_56
  · refine lv_aload hx hb dX2_trust_23 (lv_at hl 1 rfl) ?_
    refine lv_dup hx hb dX2_trust_25 rfl ?_
    refine va_get (D := gD G) (ci := 0) (v := .int (S.1 (129 + 5 * i_2) 2)) (C := RX0) (T := TX0) (N := 10) hx hb hts inX0 hown hK.1 hW (129 + 5 * i_2) (cw_P (i := i_2) (by omega)) rfl 2 (by decide) (hts (.fieldLink RX2 239 "MarkedTrees$Peer" "trustedKeys" "I") (by decide +kernel)) (fun _ h9 => h9) rfl dX2_trust_26 ?_
    refine lv_iconst (v := nI 1) hx hb dX2_trust_29 (by decide) ?_
    refine lv_iload_n hx hb dX2_trust_30 rfl (lv_at hl 4 rfl) ?_
    refine lv_ishl hx hb dX2_trust_31 ?_
    refine lv_ior hx hb dX2_trust_32 ?_
    refine va_put (D := gD G) (ci := 0) (v := .int ((S.1 (129 + 5 * i_2) 2) ||| ((nI 1) <<< ((nI n_3) &&& 31)))) (ty := .int) (C := RX0) (T := TX0) (N := 10) hx hb hts inX0 tyX0 tyX0_ok nmX0 hown hK.1 hW (wl_D hK.2.1) hS (129 + 5 * i_2) (cw_P (i := i_2) (by omega)) rfl 2 (by decide) (hts (.fieldLink RX2 239 "MarkedTrees$Peer" "trustedKeys" "I") (by decide +kernel)) (fun _ h9 => h9) rfl (by decide +kernel) rfl rfl (Nat.le_of_ble_eq_true rfl) dX2_trust_33 (fun H locs hW _ hS => ?_)
    have hW : cW G (s1 S (129 + 5 * i_2) 2 ((S.1 (129 + 5 * i_2) 2) ||| ((nI 1) <<< ((nI n_3) &&& 31)))) H := cp_P_2 (by omega) hW
    obtain ⟨S_6, eS_6⟩ : ∃ z, z = s1 S (129 + 5 * i_2) 2 ((S.1 (129 + 5 * i_2) 2) ||| ((nI 1) <<< ((nI n_3) &&& 31))) := ⟨_, rfl⟩
    rw [← eS_6] at hW
    refine lv_goto (tgt := 54) hx hb dX2_trust_36 (by decide) ?_
    refine lv_iload hx hb dX2_trust_54 (lv_at hl 0 rfl) ?_
    refine vx_ret ?_
    refine W.widen (k := 8) (n := 48) (by omega) (by omega) ?_
    exact W.zret (v := bI (ti (S.1 (129 + 5 * i_2) 2) n_3)) hx hb hr (bI_nar _) (fun t9 ht9 _ => ⟨⟨_, S_6, rfl, ⟨(by unfold cdTrust; (try simp only [cn_i_2, cn_n_3]); rw [if_pos (isP_nI hi_2), if_pos (inB_nI hn_3 (by omega))]), by first | (rfl; done) | (simp only [cn_i_2, cn_n_3]; done) | (simp only [cn_i_2, cn_n_3]; rfl), by (try simp only [cn_i_2, cn_n_3]); unfold doTrust; rw [if_pos c_20]; exact eS_6⟩, (show cW G S_6 t9.heap by rw [ht9]; exact hW)⟩, hS.F ht9⟩) hS.2.2 dX2_trust_56

set_option maxHeartbeats 4000000 in
set_option maxRecDepth 100000 in
theorem k_X2_heads (l : Launch) (hlt : l.stackTraces = false) (G : GT) (S : SS) {rc : Nat} (hrc : S.1 139 4 = nI rc) (h40 : rc ≤ 40) (x y : Int32) : vx_Met l yX2_heads wsX2_heads ({ frames := 7, cells := 8, slots := 48, locals := 103 } : Room) (va_Pc [.ref (gA G 139), .int x, .int y] (cP G S)) (vp_Sl (fun r => cdHeads x y = 0 ∧ r = ltG S (memG S (cn x) (cn y) 4 0 0) rc 0 (memG S (cn x) (cn y) 4 0 0))) (xT (fun E => E = eX (cdHeads x y) ∧ ¬ cdHeads x y = 0)) 8 48 (fun _ => False) := by
  refine vx_ofW (cc := cX2_heads) (maxL := 4) (ret := (some .long)) (by decide) rfl ?_
  intro p e s m args below meth c s₁ B hml hout hv
  obtain ⟨rfl, hW, hK⟩ := hv
  have hx := B.exec
  have hb := B.bytes
  have hr := B.returns
  have hts := atoms_spec (ws := wsX2_heads) B.pre
  have hown : s.vm.findClass RX2 = some m.cls := findClass_of_methodNamed B.named
  have hlocks := B.notSynchronized
  have hS : va_S (gF G s.heap.size) s.heap s.heap [] := va_S.rf
  have hl := lv_entry ([.ref (gA G 139), .int x, .int y]) (n := 4) (Nat.le_of_ble_eq_true rfl)
  rw [lg_entry_eq]
  generalize (lg_sl ([.ref (gA G 139), .int x, .int y]) ++ List.replicate (4 - (lg_sl ([.ref (gA G 139), .int x, .int y])).length) Slot.unset).toArray = ls at hl ⊢
  have hl : lv_has ls 4 [(0, .ref (gA G 139)), (1, .int x), (2, .int y)] := hl
  refine lv_aload_n hx hb dX2_heads_0 rfl (lv_at hl 0 rfl) ?_
  refine lv_iload_n hx hb dX2_heads_1 rfl (lv_at hl 1 rfl) ?_
  refine tv_r (vx_runV (As := [.int x]) (rest := []) ⟨hx, hb, hml, hown, hts⟩ (k_X2_peerOf l hlt G S x) (cwV 1 hts gX2_heads_X2_peerOf rfl rfl rfl (by decide +kernel) ⟨Nat.le_of_ble_eq_true rfl, Nat.le_of_ble_eq_true rfl⟩) ⟨cP_blind, c_recv hW hK (k := 139) (ci := 2) cw_O rfl, cP_at hW hK hS⟩ rfl rfl hl.1 rfl (lv_room (Nat.le_of_ble_eq_true rfl)) dX2_heads_2 ⟨Nat.le_of_ble_eq_true rfl, Nat.le_of_ble_eq_true rfl⟩) hout hlocks (fun E hE => thr_of (k := 1) (by unfold cdHeads; rw [if_neg (isP_no hE.2)]) hE.1 (by decide)) (Nat.le_of_ble_eq_true rfl) (Nat.le_of_ble_eq_true rfl) (fun k_1 h_2 => ?_)
  obtain ⟨i_2, hi_2, rfl, rfl⟩ := h_2
  have cn_i_2 : cn (nI i_2) = i_2 := cn_nI (by omega)
  refine lv_astore_n (lv' := [(3, .ref (gA G (129 + 5 * i_2))), (0, .ref (gA G 139)), (1, .int (nI i_2)), (2, .int y)]) hx hb dX2_heads_5 rfl hl (by decide) rfl (fun ls hl => ?_)
  refine lv_iload_n hx hb dX2_heads_6 rfl (lv_at hl 3 rfl) ?_
  refine tv_v (vx_runS (As := [.int y]) (rest := []) ⟨hx, hb, hml, hown, hts⟩ (k_X2_requireBranch l hlt G S y) (va_cwS 1 hts gX2_heads_X2_requireBranch rfl rfl rfl (by decide +kernel) ⟨Nat.le_of_ble_eq_true rfl, Nat.le_of_ble_eq_true rfl⟩) ⟨cP_blind, cP_at hW hK hS⟩ rfl rfl hl.1 rfl (lv_room (Nat.le_of_ble_eq_true rfl)) dX2_heads_7 ⟨Nat.le_of_ble_eq_true rfl, Nat.le_of_ble_eq_true rfl⟩) hout hlocks (fun E hE => thr_of (k := 1) (by unfold cdHeads; (try simp only [cn_i_2]); rw [if_pos (isP_nI hi_2), if_neg (fun h9 => hE.2 ((inB_iff (by decide)).mp h9))]) hE.1 (by decide)) (Nat.le_of_ble_eq_true rfl) (Nat.le_of_ble_eq_true rfl) (fun h_7 => ?_)
  obtain ⟨n_3, hn_3, rfl⟩ := h_7
  have cn_n_3 : cn (nI n_3) = n_3 := cn_nI (by omega)
  refine lv_aload_n hx hb dX2_heads_10 rfl (lv_at hl 1 rfl) ?_
  refine lv_aload_n hx hb dX2_heads_11 rfl (lv_at hl 0 rfl) ?_
  refine lv_iload_n hx hb dX2_heads_12 rfl (lv_at hl 3 rfl) ?_
  refine pv_l (va_runV (As := [.int (nI n_3)]) (rest := [.ref (gA G 139)]) ⟨hx, hb, hml, hown, hts⟩ (k_X0_membersOf l G S (i := i_2) (by omega) (b := n_3) (by omega)) (cwV 1 hts gX2_heads_X0_membersOf rfl rfl rfl (by decide +kernel) ⟨Nat.le_of_ble_eq_true rfl, Nat.le_of_ble_eq_true rfl⟩) ⟨cP_blind, c_recv hW hK (k := (129 + 5 * i_2)) (ci := 0) (cw_P (i := i_2) (by omega)) rfl, cP_at hW hK hS⟩ rfl rfl hl.1 rfl (lv_room (Nat.le_of_ble_eq_true rfl)) dX2_heads_13 ⟨Nat.le_of_ble_eq_true rfl, Nat.le_of_ble_eq_true rfl⟩) (fun r_4 hr_4 => ?_)
  have hr_4 : r_4 = memG S i_2 n_3 4 0 0 := hr_4
  subst hr_4
  refine pv_l (va_runV (As := [.long (memG S i_2 n_3 4 0 0)]) (rest := []) ⟨hx, hb, hml, hown, hts⟩ (k_X2_latestOf l G S (rc := rc) hrc (by omega) (memG S i_2 n_3 4 0 0)) (cwV 1 hts gX2_heads_X2_latestOf rfl rfl rfl (by decide +kernel) ⟨Nat.le_of_ble_eq_true rfl, Nat.le_of_ble_eq_true rfl⟩) ⟨cP_blind, c_recv hW hK (k := 139) (ci := 2) cw_O rfl, cP_at hW hK hS⟩ rfl rfl hl.1 rfl (lv_room (Nat.le_of_ble_eq_true rfl)) dX2_heads_16 ⟨Nat.le_of_ble_eq_true rfl, Nat.le_of_ble_eq_true rfl⟩) (fun r_5 hr_5 => ?_)
  have hr_5 : r_5 = ltG S (memG S i_2 n_3 4 0 0) rc 0 (memG S i_2 n_3 4 0 0) := hr_5
  subst hr_5
  refine vx_ret ?_
  refine W.widen (k := 8) (n := 48) (by omega) (by omega) ?_
  exact W.lret (v := ltG S (memG S i_2 n_3 4 0 0) rc 0 (memG S i_2 n_3 4 0 0)) hx hb hr (fun t9 ht9 _ => ⟨_, rfl, ⟨(by unfold cdHeads; (try simp only [cn_i_2, cn_n_3]); rw [if_pos (isP_nI hi_2), if_pos (inB_nI hn_3 (by omega))]), by first | (rfl; done) | (simp only [cn_i_2, cn_n_3]; done) | (simp only [cn_i_2, cn_n_3]; rfl)⟩, ht9⟩) (fun _ h => by cases h) dX2_heads_19
