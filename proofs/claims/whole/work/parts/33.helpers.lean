set_option maxHeartbeats 4000000 in
set_option maxRecDepth 100000 in
theorem k_X2_peerOf (l : Launch) (hlt : l.stackTraces = false) (G : GT) (S : SS) (x : Int32) : vx_Met l yX2_peerOf wsX2_peerOf ({ frames := 6, cells := 1, slots := 6, locals := 82 } : Room) (va_Pc [.ref (gA G 139), .int x] (cP G S)) (va_Sr (fun r => ∃ i, i < 2 ∧ x = nI i ∧ r = gA G (129 + 5 * i)) (fun k => .ref k)) (xT (fun E => E = eN ∧ ¬ (x = 0 ∨ x = 1))) 1 6 (fun _ => False) := by
  refine vx_ofW (cc := cX2_peerOf) (maxL := 2) (ret := (some (.object "MarkedTrees$Peer"))) (by decide) rfl ?_
  intro p e s m args below meth c s₁ B hml hout hv
  obtain ⟨rfl, hW, hK⟩ := hv
  have hx := B.exec
  have hb := B.bytes
  have hr := B.returns
  have hts := atoms_spec (ws := wsX2_peerOf) B.pre
  have hown : s.vm.findClass RX2 = some m.cls := findClass_of_methodNamed B.named
  have hlocks := B.notSynchronized
  have hS : va_S (gF G s.heap.size) s.heap s.heap [] := va_S.rf
  have inX2 : ∀ w ∈ u_ws RX2 TX2 10, w ∈ wsX2_peerOf := by decide +kernel
  have hatN : ∀ w ∈ (vx_atS RX2 264 eN eU).filter goodWord, w.before _ s = true := fun w hw => hts w ((by decide +kernel : ∀ w ∈ (vx_atS RX2 264 eN eU).filter goodWord, w ∈ wsX2_peerOf) w hw)
  have hl := lv_entry ([.ref (gA G 139), .int x]) (n := 2) (Nat.le_of_ble_eq_true rfl)
  rw [lg_entry_eq]
  generalize (lg_sl ([.ref (gA G 139), .int x]) ++ List.replicate (2 - (lg_sl ([.ref (gA G 139), .int x])).length) Slot.unset).toArray = ls at hl ⊢
  have hl : lv_has ls 2 [(0, .ref (gA G 139)), (1, .int x)] := hl
  refine lv_iload_n hx hb dX2_peerOf_0 rfl (lv_at hl 1 rfl) ?_
  refine lv_if_eq (tgt := 20) hx hb dX2_peerOf_1 (by decide) (fun c_1 => ?_) (fun c_1 => ?_)
  · refine lv_iload_n hx hb dX2_peerOf_20 rfl (lv_at hl 1 rfl) ?_
    refine lv_if_ne (tgt := 31) hx hb dX2_peerOf_21 (by decide) (fun c_21 => ?_) (fun c_21 => ?_)
    · exact absurd c_1 c_21
    · refine lv_aload_n hx hb dX2_peerOf_24 rfl (lv_at hl 0 rfl) ?_
      refine va_get (D := gD G) (ci := 2) (v := .ref (gA G (129 + 5 * 0))) (C := RX2) (T := TX2) (N := 10) hx hb hts inX2 hown hK.1 hW 139 cw_O rfl 0 (by decide) (hts (.fieldLink RX2 10 "MarkedTrees" "first" "LMarkedTrees$Peer;") (by decide +kernel)) (fun _ h9 => h9) rfl dX2_peerOf_25 ?_
      refine lv_goto (tgt := 35) hx hb dX2_peerOf_28 (by decide) ?_
      refine vx_ret ?_
      refine W.widen (k := 1) (n := 6) (by omega) (by omega) ?_
      exact W.aret (v := .ref (gA G (129 + 5 * 0))) hx hb hr (Or.inl ⟨_, rfl⟩) (Or.inr ⟨_, rfl⟩) (fun t9 ht9 _ => ⟨_, rfl, ⟨0, by omega, c_1, rfl⟩, ht9⟩) (fun _ h => by cases h) dX2_peerOf_35
  · refine lv_iload_n hx hb dX2_peerOf_4 rfl (lv_at hl 1 rfl) ?_
    refine lv_iconst (v := nI 1) hx hb dX2_peerOf_5 (by decide) ?_
    refine lv_icmp_eq (tgt := 20) hx hb dX2_peerOf_6 (by decide) (fun c_6 => ?_) (fun c_6 => ?_)
    · refine lv_iload_n hx hb dX2_peerOf_20 rfl (lv_at hl 1 rfl) ?_
      refine lv_if_ne (tgt := 31) hx hb dX2_peerOf_21 (by decide) (fun c_21 => ?_) (fun c_21 => ?_)
      · refine lv_aload_n hx hb dX2_peerOf_31 rfl (lv_at hl 0 rfl) ?_
        refine va_get (D := gD G) (ci := 2) (v := .ref (gA G (129 + 5 * 1))) (C := RX2) (T := TX2) (N := 10) hx hb hts inX2 hown hK.1 hW 139 cw_O rfl 1 (by decide) (hts (.fieldLink RX2 16 "MarkedTrees" "second" "LMarkedTrees$Peer;") (by decide +kernel)) (fun _ h9 => h9) rfl dX2_peerOf_32 ?_
        refine vx_ret ?_
        refine W.widen (k := 1) (n := 6) (by omega) (by omega) ?_
        exact W.aret (v := .ref (gA G (129 + 5 * 1))) hx hb hr (Or.inl ⟨_, rfl⟩) (Or.inr ⟨_, rfl⟩) (fun t9 ht9 _ => ⟨_, rfl, ⟨1, by omega, c_6, rfl⟩, ht9⟩) (fun _ h => by cases h) dX2_peerOf_35
      · exact absurd c_21 c_1
    · exact tv_throwW (text := "no such peer") hx hb hlt hown hK hout hlocks (hl.1.trans hml.symm) fit_N at_Ng at_N0 (by decide) (hts (.classLink RX2 260 eN) (by decide +kernel)) (hts (.initialized eN) (by decide +kernel)) hatN (by decide) ⟨rfl, fun h => h.elim c_1 c_6⟩ ⟨Nat.le_of_ble_eq_true rfl, Nat.le_of_ble_eq_true rfl, Nat.le_of_ble_eq_true rfl, Nat.le_of_ble_eq_true rfl, Nat.le_of_ble_eq_true rfl, Nat.le_of_ble_eq_true rfl⟩ dX2_peerOf_9 dX2_peerOf_12 dX2_peerOf_13 dX2_peerOf_16 dX2_peerOf_19

set_option maxHeartbeats 4000000 in
set_option maxRecDepth 100000 in
theorem k_X2_requireWorkspace (l : Launch) (hlt : l.stackTraces = false) (G : GT) (S : SS) {i : Nat} (hi : i < 2) : vx_Met l yX2_requireWorkspace wsX2_requireWorkspace ({ frames := 6, cells := 1, slots := 6, locals := 82 } : Room) (va_Pc [.ref (gA G (129 + 5 * i))] (cP G S)) (va_Sv (fun _ => ¬ S.1 (129 + 5 * i) 4 = -1)) (xT (fun E => E = eS ∧ S.1 (129 + 5 * i) 4 = -1)) 1 6 (fun _ => False) := by
  refine vx_ofW (cc := cX2_requireWorkspace) (maxL := 1) (ret := none) (by decide) rfl ?_
  intro p e s m args below meth c s₁ B hml hout hv
  obtain ⟨rfl, hW, hK⟩ := hv
  have hx := B.exec
  have hb := B.bytes
  have hr := B.returns
  have hts := atoms_spec (ws := wsX2_requireWorkspace) B.pre
  have hown : s.vm.findClass RX2 = some m.cls := findClass_of_methodNamed B.named
  have hlocks := B.notSynchronized
  have hS : va_S (gF G s.heap.size) s.heap s.heap [] := va_S.rf
  have inX0 : ∀ w ∈ u_ws RX0 TX0 10, w ∈ wsX2_requireWorkspace := by decide +kernel
  have hatS : ∀ w ∈ (vx_atS RX2 97 eS eU).filter goodWord, w.before _ s = true := fun w hw => hts w ((by decide +kernel : ∀ w ∈ (vx_atS RX2 97 eS eU).filter goodWord, w ∈ wsX2_requireWorkspace) w hw)
  have hl := lv_entry ([.ref (gA G (129 + 5 * i))]) (n := 1) (Nat.le_of_ble_eq_true rfl)
  rw [lg_entry_eq]
  generalize (lg_sl ([.ref (gA G (129 + 5 * i))]) ++ List.replicate (1 - (lg_sl ([.ref (gA G (129 + 5 * i))])).length) Slot.unset).toArray = ls at hl ⊢
  have hl : lv_has ls 1 [(0, .ref (gA G (129 + 5 * i)))] := hl
  refine lv_aload_n hx hb dX2_requireWorkspace_0 rfl (lv_at hl 0 rfl) ?_
  refine va_get (D := gD G) (ci := 0) (v := .int (S.1 (129 + 5 * i) 4)) (C := RX0) (T := TX0) (N := 10) hx hb hts inX0 hown hK.1 hW (129 + 5 * i) (cw_P (i := i) (by omega)) rfl 4 (by decide) (hts (.fieldLink RX2 63 "MarkedTrees$Peer" "base" "I") (by decide +kernel)) (fun _ h9 => h9) rfl dX2_requireWorkspace_1 ?_
  refine lv_iconst (v := (-1)) hx hb dX2_requireWorkspace_4 (by decide) ?_
  refine lv_icmp_ne (tgt := 19) hx hb dX2_requireWorkspace_5 (by decide) (fun c_5 => ?_) (fun c_5 => ?_)
  · refine vx_ret ?_
    refine W.widen (k := 1) (n := 6) (by omega) (by omega) ?_
    exact W.vret hx hb hr (fun t9 ht9 _ => ⟨rfl, c_5, ht9⟩) (fun _ h => by cases h) dX2_requireWorkspace_19
  · exact tv_throwW (text := "the peer has no workspace") hx hb hlt hown hK hout hlocks (hl.1.trans hml.symm) fit_S at_Sg at_S0 (by decide) (hts (.classLink RX2 93 eS) (by decide +kernel)) (hts (.initialized eS) (by decide +kernel)) hatS (by decide) ⟨rfl, c_5⟩ ⟨Nat.le_of_ble_eq_true rfl, Nat.le_of_ble_eq_true rfl, Nat.le_of_ble_eq_true rfl, Nat.le_of_ble_eq_true rfl, Nat.le_of_ble_eq_true rfl, Nat.le_of_ble_eq_true rfl⟩ dX2_requireWorkspace_8 dX2_requireWorkspace_11 dX2_requireWorkspace_12 dX2_requireWorkspace_15 dX2_requireWorkspace_18

set_option maxHeartbeats 4000000 in
set_option maxRecDepth 100000 in
theorem k_X2_workspaceOf (l : Launch) (hlt : l.stackTraces = false) (G : GT) (S : SS) (x : Int32) : vx_Met l yX2_workspaceOf wsX2_workspaceOf ({ frames := 7, cells := 2, slots := 12, locals := 103 } : Room) (va_Pc [.ref (gA G 139), .int x] (cP G S)) (va_Sr (fun r => ∃ i, i < 2 ∧ x = nI i ∧ (¬ S.1 (129 + 5 * i) 4 = -1) ∧ r = gA G (3 * (41 + i))) (fun k => .ref k)) (xT (fun E => (E = eN ∧ ¬ (x = 0 ∨ x = 1)) ∨ (E = eS ∧ ∃ i, i < 2 ∧ x = nI i ∧ S.1 (129 + 5 * i) 4 = -1))) 2 12 (fun _ => False) := by
  refine vx_ofW (cc := cX2_workspaceOf) (maxL := 3) (ret := (some (.object "MarkedTrees$Tree"))) (by decide) rfl ?_
  intro p e s m args below meth c s₁ B hml hout hv
  obtain ⟨rfl, hW, hK⟩ := hv
  have hx := B.exec
  have hb := B.bytes
  have hr := B.returns
  have hts := atoms_spec (ws := wsX2_workspaceOf) B.pre
  have hown : s.vm.findClass RX2 = some m.cls := findClass_of_methodNamed B.named
  have hlocks := B.notSynchronized
  have hS : va_S (gF G s.heap.size) s.heap s.heap [] := va_S.rf
  have inX0 : ∀ w ∈ u_ws RX0 TX0 10, w ∈ wsX2_workspaceOf := by decide +kernel
  have hl := lv_entry ([.ref (gA G 139), .int x]) (n := 3) (Nat.le_of_ble_eq_true rfl)
  rw [lg_entry_eq]
  generalize (lg_sl ([.ref (gA G 139), .int x]) ++ List.replicate (3 - (lg_sl ([.ref (gA G 139), .int x])).length) Slot.unset).toArray = ls at hl ⊢
  have hl : lv_has ls 3 [(0, .ref (gA G 139)), (1, .int x)] := hl
  refine lv_aload_n hx hb dX2_workspaceOf_0 rfl (lv_at hl 0 rfl) ?_
  refine lv_iload_n hx hb dX2_workspaceOf_1 rfl (lv_at hl 1 rfl) ?_
  refine tv_r (vx_runV (As := [.int x]) (rest := []) ⟨hx, hb, hml, hown, hts⟩ (k_X2_peerOf l hlt G S x) (cwV 1 hts gX2_workspaceOf_X2_peerOf rfl rfl rfl (by decide +kernel) ⟨Nat.le_of_ble_eq_true rfl, Nat.le_of_ble_eq_true rfl⟩) ⟨cP_blind, c_recv hW hK (k := 139) (ci := 2) cw_O rfl, cP_at hW hK hS⟩ rfl rfl hl.1 rfl (lv_room (Nat.le_of_ble_eq_true rfl)) dX2_workspaceOf_2 ⟨Nat.le_of_ble_eq_true rfl, Nat.le_of_ble_eq_true rfl⟩) hout hlocks (fun E hE => Or.inl hE) (Nat.le_of_ble_eq_true rfl) (Nat.le_of_ble_eq_true rfl) (fun k_1 h_2 => ?_)
  obtain ⟨i_2, hi_2, rfl, rfl⟩ := h_2
  refine lv_astore_n (lv' := [(2, .ref (gA G (129 + 5 * i_2))), (0, .ref (gA G 139)), (1, .int (nI i_2))]) hx hb dX2_workspaceOf_5 rfl hl (by decide) rfl (fun ls hl => ?_)
  refine lv_aload_n hx hb dX2_workspaceOf_6 rfl (lv_at hl 0 rfl) ?_
  refine tv_v (vx_runS (As := [.ref (gA G (129 + 5 * i_2))]) (rest := []) ⟨hx, hb, hml, hown, hts⟩ (k_X2_requireWorkspace l hlt G S (i := i_2) (by omega)) (va_cwS 1 hts gX2_workspaceOf_X2_requireWorkspace rfl rfl rfl (by decide +kernel) ⟨Nat.le_of_ble_eq_true rfl, Nat.le_of_ble_eq_true rfl⟩) ⟨cP_blind, cP_at hW hK hS⟩ rfl rfl hl.1 rfl (lv_room (Nat.le_of_ble_eq_true rfl)) dX2_workspaceOf_7 ⟨Nat.le_of_ble_eq_true rfl, Nat.le_of_ble_eq_true rfl⟩) hout hlocks (fun E hE => Or.inr ⟨hE.1, i_2, hi_2, rfl, hE.2⟩) (Nat.le_of_ble_eq_true rfl) (Nat.le_of_ble_eq_true rfl) (fun h_7 => ?_)
  refine lv_aload_n hx hb dX2_workspaceOf_10 rfl (lv_at hl 0 rfl) ?_
  refine va_get (D := gD G) (ci := 0) (v := .ref (gA G (3 * (41 + i_2)))) (C := RX0) (T := TX0) (N := 10) hx hb hts inX0 hown hK.1 hW (129 + 5 * i_2) (cw_P (i := i_2) (by omega)) rfl 3 (by decide) (hts (.fieldLink RX2 56 "MarkedTrees$Peer" "workspace" "LMarkedTrees$Tree;") (by decide +kernel)) (fun _ h9 => h9) rfl dX2_workspaceOf_11 ?_
  refine vx_ret ?_
  exact W.aret (v := .ref (gA G (3 * (41 + i_2)))) hx hb hr (Or.inl ⟨_, rfl⟩) (Or.inr ⟨_, rfl⟩) (fun t9 ht9 _ => ⟨_, rfl, ⟨i_2, hi_2, rfl, h_7, rfl⟩, ht9⟩) (fun _ h => by cases h) dX2_workspaceOf_14

set_option maxHeartbeats 4000000 in
set_option maxRecDepth 100000 in
theorem k_X2_requireRevision (l : Launch) (hlt : l.stackTraces = false) (G : GT) (S : SS) {rc : Nat} (hrc : S.1 139 4 = nI rc) (h40 : rc ≤ 40) (x : Int32) : vx_Met l yX2_requireRevision wsX2_requireRevision ({ frames := 6, cells := 1, slots := 6, locals := 82 } : Room) (va_Pc [.ref (gA G 139), .int x] (cP G S)) (va_Sv (fun _ => ∃ j, j < rc ∧ x = nI j)) (xT (fun E => E = eN ∧ ¬ ∃ j, j < rc ∧ x = nI j)) 1 6 (fun _ => False) := by
  refine vx_ofW (cc := cX2_requireRevision) (maxL := 2) (ret := none) (by decide) rfl ?_
  intro p e s m args below meth c s₁ B hml hout hv
  obtain ⟨rfl, hW, hK⟩ := hv
  have hx := B.exec
  have hb := B.bytes
  have hr := B.returns
  have hts := atoms_spec (ws := wsX2_requireRevision) B.pre
  have hown : s.vm.findClass RX2 = some m.cls := findClass_of_methodNamed B.named
  have hlocks := B.notSynchronized
  have hS : va_S (gF G s.heap.size) s.heap s.heap [] := va_S.rf
  have inX2 : ∀ w ∈ u_ws RX2 TX2 10, w ∈ wsX2_requireRevision := by decide +kernel
  have hatN : ∀ w ∈ (vx_atS RX2 264 eN eU).filter goodWord, w.before _ s = true := fun w hw => hts w ((by decide +kernel : ∀ w ∈ (vx_atS RX2 264 eN eU).filter goodWord, w ∈ wsX2_requireRevision) w hw)
  have hl := lv_entry ([.ref (gA G 139), .int x]) (n := 2) (Nat.le_of_ble_eq_true rfl)
  rw [lg_entry_eq]
  generalize (lg_sl ([.ref (gA G 139), .int x]) ++ List.replicate (2 - (lg_sl ([.ref (gA G 139), .int x])).length) Slot.unset).toArray = ls at hl ⊢
  have hl : lv_has ls 2 [(0, .ref (gA G 139)), (1, .int x)] := hl
  refine lv_iload_n hx hb dX2_requireRevision_0 rfl (lv_at hl 1 rfl) ?_
  refine lv_if_lt (tgt := 12) hx hb dX2_requireRevision_1 (by decide) (fun c_1 => ?_) (fun c_1 => ?_)
  · exact tv_throwW (text := "no such revision") hx hb hlt hown hK hout hlocks (hl.1.trans hml.symm) fit_N at_Ng at_N0 (by decide) (hts (.classLink RX2 260 eN) (by decide +kernel)) (hts (.initialized eN) (by decide +kernel)) hatN (by decide) ⟨rfl, rng_no0 c_1 (by omega)⟩ ⟨Nat.le_of_ble_eq_true rfl, Nat.le_of_ble_eq_true rfl, Nat.le_of_ble_eq_true rfl, Nat.le_of_ble_eq_true rfl, Nat.le_of_ble_eq_true rfl, Nat.le_of_ble_eq_true rfl⟩ dX2_requireRevision_12 dX2_requireRevision_15 dX2_requireRevision_16 dX2_requireRevision_19 dX2_requireRevision_22
  · refine lv_iload_n hx hb dX2_requireRevision_4 rfl (lv_at hl 1 rfl) ?_
    refine lv_aload_n hx hb dX2_requireRevision_5 rfl (lv_at hl 0 rfl) ?_
    refine va_get (D := gD G) (ci := 2) (v := .int (nI rc)) (C := RX2) (T := TX2) (N := 10) hx hb hts inX2 hown hK.1 hW 139 cw_O rfl 4 (by decide) (hts (.fieldLink RX2 29 "MarkedTrees" "revisionCount" "I") (by decide +kernel)) (fun _ h9 => h9) (by rw [← hrc]; rfl) dX2_requireRevision_6 ?_
    refine lv_icmp_lt (tgt := 23) hx hb dX2_requireRevision_9 (by decide) (fun c_9 => ?_) (fun c_9 => ?_)
    · refine vx_ret ?_
      refine W.widen (k := 1) (n := 6) (by omega) (by omega) ?_
      exact W.vret hx hb hr (fun t9 ht9 _ => ⟨rfl, (rng_lt c_1 c_9 (by omega)), ht9⟩) (fun _ h => by cases h) dX2_requireRevision_23
    · exact tv_throwW (text := "no such revision") hx hb hlt hown hK hout hlocks (hl.1.trans hml.symm) fit_N at_Ng at_N0 (by decide) (hts (.classLink RX2 260 eN) (by decide +kernel)) (hts (.initialized eN) (by decide +kernel)) hatN (by decide) ⟨rfl, rng_no1 c_9 (by omega)⟩ ⟨Nat.le_of_ble_eq_true rfl, Nat.le_of_ble_eq_true rfl, Nat.le_of_ble_eq_true rfl, Nat.le_of_ble_eq_true rfl, Nat.le_of_ble_eq_true rfl, Nat.le_of_ble_eq_true rfl⟩ dX2_requireRevision_12 dX2_requireRevision_15 dX2_requireRevision_16 dX2_requireRevision_19 dX2_requireRevision_22

set_option maxHeartbeats 4000000 in
set_option maxRecDepth 100000 in
theorem k_X2_requireHeld (l : Launch) (hlt : l.stackTraces = false) (G : GT) (S : SS) {rc : Nat} (hrc : S.1 139 4 = nI rc) (h40 : rc ≤ 40) {i : Nat} (hi : i < 2) (x : Int32) : vx_Met l yX2_requireHeld wsX2_requireHeld ({ frames := 7, cells := 2, slots := 12, locals := 103 } : Room) (va_Pc [.ref (gA G 139), .ref (gA G (129 + 5 * i)), .int x] (cP G S)) (va_Sv (fun _ => ∃ j, j < rc ∧ x = nI j ∧ tb (S.2 (129 + 5 * i) 0) j = true)) (xT (fun E => E = eN ∧ ¬ ∃ j, j < rc ∧ x = nI j ∧ tb (S.2 (129 + 5 * i) 0) j = true)) 2 12 (fun _ => False) := by
  refine vx_ofW (cc := cX2_requireHeld) (maxL := 3) (ret := none) (by decide) rfl ?_
  intro p e s m args below meth c s₁ B hml hout hv
  obtain ⟨rfl, hW, hK⟩ := hv
  have hx := B.exec
  have hb := B.bytes
  have hr := B.returns
  have hts := atoms_spec (ws := wsX2_requireHeld) B.pre
  have hown : s.vm.findClass RX2 = some m.cls := findClass_of_methodNamed B.named
  have hlocks := B.notSynchronized
  have hS : va_S (gF G s.heap.size) s.heap s.heap [] := va_S.rf
  have inX0 : ∀ w ∈ u_ws RX0 TX0 10, w ∈ wsX2_requireHeld := by decide +kernel
  have hatN : ∀ w ∈ (vx_atS RX2 264 eN eU).filter goodWord, w.before _ s = true := fun w hw => hts w ((by decide +kernel : ∀ w ∈ (vx_atS RX2 264 eN eU).filter goodWord, w ∈ wsX2_requireHeld) w hw)
  have hl := lv_entry ([.ref (gA G 139), .ref (gA G (129 + 5 * i)), .int x]) (n := 3) (Nat.le_of_ble_eq_true rfl)
  rw [lg_entry_eq]
  generalize (lg_sl ([.ref (gA G 139), .ref (gA G (129 + 5 * i)), .int x]) ++ List.replicate (3 - (lg_sl ([.ref (gA G 139), .ref (gA G (129 + 5 * i)), .int x])).length) Slot.unset).toArray = ls at hl ⊢
  have hl : lv_has ls 3 [(0, .ref (gA G 139)), (1, .ref (gA G (129 + 5 * i))), (2, .int x)] := hl
  refine lv_aload_n hx hb dX2_requireHeld_0 rfl (lv_at hl 0 rfl) ?_
  refine lv_iload_n hx hb dX2_requireHeld_1 rfl (lv_at hl 2 rfl) ?_
  refine tv_v (vx_runV (As := [.int x]) (rest := []) ⟨hx, hb, hml, hown, hts⟩ (k_X2_requireRevision l hlt G S (rc := rc) hrc (by omega) x) (cwV 1 hts gX2_requireHeld_X2_requireRevision rfl rfl rfl (by decide +kernel) ⟨Nat.le_of_ble_eq_true rfl, Nat.le_of_ble_eq_true rfl⟩) ⟨cP_blind, c_recv hW hK (k := 139) (ci := 2) cw_O rfl, cP_at hW hK hS⟩ rfl rfl hl.1 rfl (lv_room (Nat.le_of_ble_eq_true rfl)) dX2_requireHeld_2 ⟨Nat.le_of_ble_eq_true rfl, Nat.le_of_ble_eq_true rfl⟩) hout hlocks (fun E hE => ⟨hE.1, fun ⟨j, h1, h2, _⟩ => hE.2 ⟨j, h1, h2⟩⟩) (Nat.le_of_ble_eq_true rfl) (Nat.le_of_ble_eq_true rfl) (fun h_2 => ?_)
  obtain ⟨j, hj, rfl⟩ := h_2
  refine lv_aload_n hx hb dX2_requireHeld_5 rfl (lv_at hl 1 rfl) ?_
  refine va_get (D := gD G) (ci := 0) (v := .long (S.2 (129 + 5 * i) 0)) (C := RX0) (T := TX0) (N := 10) hx hb hts inX0 hown hK.1 hW (129 + 5 * i) (cw_P (i := i) (by omega)) rfl 0 (by decide) (hts (.fieldLink RX2 256 "MarkedTrees$Peer" "held" "J") (by decide +kernel)) (fun _ h9 => h9) rfl dX2_requireHeld_6 ?_
  refine lv_iload_n hx hb dX2_requireHeld_9 rfl (lv_at hl 2 rfl) ?_
  refine pv_i (va_runS (As := [.long (S.2 (129 + 5 * i) 0), .int (nI j)]) (rest := []) ⟨hx, hb, hml, hown, hts⟩ (k_X2_isIn l (S.2 (129 + 5 * i) 0) (k := j) (by omega)) (va_cwS 2 hts gX2_requireHeld_X2_isIn rfl rfl rfl (by decide +kernel) ⟨Nat.le_of_ble_eq_true rfl, Nat.le_of_ble_eq_true rfl⟩) ⟨(fun _ _ _ _ h => h), fun U _ _ => ⟨rfl, trivial⟩⟩ rfl rfl hl.1 rfl (lv_room (Nat.le_of_ble_eq_true rfl)) dX2_requireHeld_10 ⟨Nat.le_of_ble_eq_true rfl, Nat.le_of_ble_eq_true rfl⟩) (fun r_1 hr_1 => ?_)
  have hr_1 : r_1 = bI (tb (S.2 (129 + 5 * i) 0) j) := hr_1
  subst hr_1
  refine bv_if_ne (b := tb (S.2 (129 + 5 * i) 0) j) (tgt := 27) hx hb dX2_requireHeld_13 (by decide) (fun c_13 => ?_) (fun c_13 => ?_)
  · refine vx_ret ?_
    refine W.widen (k := 2) (n := 12) (by omega) (by omega) ?_
    exact W.vret hx hb hr (fun t9 ht9 _ => ⟨rfl, ⟨j, hj, rfl, c_13⟩, ht9⟩) (fun _ h => by cases h) dX2_requireHeld_27
  · exact tv_throwW (text := "the peer does not have the revision") hx hb hlt hown hK hout hlocks (hl.1.trans hml.symm) fit_N at_Ng at_N0 (by decide) (hts (.classLink RX2 260 eN) (by decide +kernel)) (hts (.initialized eN) (by decide +kernel)) hatN (by decide) ⟨rfl, fun ⟨k, h1, h2, h3⟩ => by rw [← (nI_eq (by omega) (by omega)).mp h2, c_13] at h3; cases h3⟩ ⟨Nat.le_of_ble_eq_true rfl, Nat.le_of_ble_eq_true rfl, Nat.le_of_ble_eq_true rfl, Nat.le_of_ble_eq_true rfl, Nat.le_of_ble_eq_true rfl, Nat.le_of_ble_eq_true rfl⟩ dX2_requireHeld_16 dX2_requireHeld_19 dX2_requireHeld_20 dX2_requireHeld_23 dX2_requireHeld_26

set_option maxHeartbeats 4000000 in
set_option maxRecDepth 100000 in
theorem k_X2_requireRoomForRevision (l : Launch) (hlt : l.stackTraces = false) (G : GT) (S : SS) {rc : Nat} (hrc : S.1 139 4 = nI rc) (h40 : rc ≤ 40) : vx_Met l yX2_requireRoomForRevision wsX2_requireRoomForRevision ({ frames := 6, cells := 1, slots := 6, locals := 82 } : Room) (va_Pc [.ref (gA G 139)] (cP G S)) (va_Sv (fun _ => rc < 40)) (xT (fun E => E = eS ∧ rc = 40)) 1 6 (fun _ => False) := by
  refine vx_ofW (cc := cX2_requireRoomForRevision) (maxL := 1) (ret := none) (by decide) rfl ?_
  intro p e s m args below meth c s₁ B hml hout hv
  obtain ⟨rfl, hW, hK⟩ := hv
  have hx := B.exec
  have hb := B.bytes
  have hr := B.returns
  have hts := atoms_spec (ws := wsX2_requireRoomForRevision) B.pre
  have hown : s.vm.findClass RX2 = some m.cls := findClass_of_methodNamed B.named
  have hlocks := B.notSynchronized
  have hS : va_S (gF G s.heap.size) s.heap s.heap [] := va_S.rf
  have inX2 : ∀ w ∈ u_ws RX2 TX2 10, w ∈ wsX2_requireRoomForRevision := by decide +kernel
  have hatS : ∀ w ∈ (vx_atS RX2 97 eS eU).filter goodWord, w.before _ s = true := fun w hw => hts w ((by decide +kernel : ∀ w ∈ (vx_atS RX2 97 eS eU).filter goodWord, w ∈ wsX2_requireRoomForRevision) w hw)
  have hl := lv_entry ([.ref (gA G 139)]) (n := 1) (Nat.le_of_ble_eq_true rfl)
  rw [lg_entry_eq]
  generalize (lg_sl ([.ref (gA G 139)]) ++ List.replicate (1 - (lg_sl ([.ref (gA G 139)])).length) Slot.unset).toArray = ls at hl ⊢
  have hl : lv_has ls 1 [(0, .ref (gA G 139))] := hl
  refine lv_aload_n hx hb dX2_requireRoomForRevision_0 rfl (lv_at hl 0 rfl) ?_
  refine va_get (D := gD G) (ci := 2) (v := .int (nI rc)) (C := RX2) (T := TX2) (N := 10) hx hb hts inX2 hown hK.1 hW 139 cw_O rfl 4 (by decide) (hts (.fieldLink RX2 29 "MarkedTrees" "revisionCount" "I") (by decide +kernel)) (fun _ h9 => h9) (by rw [← hrc]; rfl) dX2_requireRoomForRevision_1 ?_
  refine lv_bipush (v := nI 40) hx hb dX2_requireRoomForRevision_4 (by decide) ?_
  refine nv_icmp_lt (tgt := 20) hx hb (by omega) (by omega) dX2_requireRoomForRevision_6 (by decide) (fun c_6 => ?_) (fun c_6 => ?_)
  · refine vx_ret ?_
    refine W.widen (k := 1) (n := 6) (by omega) (by omega) ?_
    exact W.vret hx hb hr (fun t9 ht9 _ => ⟨rfl, c_6, ht9⟩) (fun _ h => by cases h) dX2_requireRoomForRevision_20
  · exact tv_throwW (text := "there are 40 revisions") hx hb hlt hown hK hout hlocks (hl.1.trans hml.symm) fit_S at_Sg at_S0 (by decide) (hts (.classLink RX2 93 eS) (by decide +kernel)) (hts (.initialized eS) (by decide +kernel)) hatS (by decide) ⟨rfl, by omega⟩ ⟨Nat.le_of_ble_eq_true rfl, Nat.le_of_ble_eq_true rfl, Nat.le_of_ble_eq_true rfl, Nat.le_of_ble_eq_true rfl, Nat.le_of_ble_eq_true rfl, Nat.le_of_ble_eq_true rfl⟩ dX2_requireRoomForRevision_9 dX2_requireRoomForRevision_12 dX2_requireRoomForRevision_13 dX2_requireRoomForRevision_16 dX2_requireRoomForRevision_19

set_option maxHeartbeats 4000000 in
set_option maxRecDepth 100000 in
theorem k_X2_requireAlive (l : Launch) (hlt : l.stackTraces = false) (G : GT) (S : SS) {t : Nat} (ht : t < 43) (x : Int32) : vx_Met l yX2_requireAlive wsX2_requireAlive ({ frames := 6, cells := 1, slots := 6, locals := 82 } : Room) (va_Pc [.ref (gA G (3 * t)), .int x] (cP G S)) (va_Sv (fun _ => aliveB S t x = true)) (xT (fun E => E = eN ∧ aliveB S t x = false)) 1 6 (fun _ => False) := by
  refine vx_ofW (cc := cX2_requireAlive) (maxL := 2) (ret := none) (by decide) rfl ?_
  intro p e s m args below meth c s₁ B hml hout hv
  obtain ⟨rfl, hW, hK⟩ := hv
  have hx := B.exec
  have hb := B.bytes
  have hr := B.returns
  have hts := atoms_spec (ws := wsX2_requireAlive) B.pre
  have hown : s.vm.findClass RX2 = some m.cls := findClass_of_methodNamed B.named
  have hlocks := B.notSynchronized
  have hS : va_S (gF G s.heap.size) s.heap s.heap [] := va_S.rf
  have hatN : ∀ w ∈ (vx_atS RX2 264 eN eU).filter goodWord, w.before _ s = true := fun w hw => hts w ((by decide +kernel : ∀ w ∈ (vx_atS RX2 264 eN eU).filter goodWord, w ∈ wsX2_requireAlive) w hw)
  have hl := lv_entry ([.ref (gA G (3 * t)), .int x]) (n := 2) (Nat.le_of_ble_eq_true rfl)
  rw [lg_entry_eq]
  generalize (lg_sl ([.ref (gA G (3 * t)), .int x]) ++ List.replicate (2 - (lg_sl ([.ref (gA G (3 * t)), .int x])).length) Slot.unset).toArray = ls at hl ⊢
  have hl : lv_has ls 2 [(0, .ref (gA G (3 * t))), (1, .int x)] := hl
  refine lv_aload_n hx hb dX2_requireAlive_0 rfl (lv_at hl 0 rfl) ?_
  refine lv_iload_n hx hb dX2_requireAlive_1 rfl (lv_at hl 1 rfl) ?_
  refine pv_i (va_runV (As := [.int x]) (rest := []) ⟨hx, hb, hml, hown, hts⟩ (k_X1_isAlive l G S (t := t) (by omega) x) (cwV 1 hts gX2_requireAlive_X1_isAlive rfl rfl rfl (by decide +kernel) ⟨Nat.le_of_ble_eq_true rfl, Nat.le_of_ble_eq_true rfl⟩) ⟨cP_blind, c_recv hW hK (k := (3 * t)) (ci := 1) (cw_T (t := t) (by omega)) rfl, cP_at hW hK hS⟩ rfl rfl hl.1 rfl (lv_room (Nat.le_of_ble_eq_true rfl)) dX2_requireAlive_2 ⟨Nat.le_of_ble_eq_true rfl, Nat.le_of_ble_eq_true rfl⟩) (fun r_1 hr_1 => ?_)
  subst hr_1
  refine bv_if_ne (b := aliveB S t x) (tgt := 19) hx hb dX2_requireAlive_5 (by decide) (fun c_5 => ?_) (fun c_5 => ?_)
  · refine vx_ret ?_
    refine W.widen (k := 1) (n := 6) (by omega) (by omega) ?_
    exact W.vret hx hb hr (fun t9 ht9 _ => ⟨rfl, c_5, ht9⟩) (fun _ h => by cases h) dX2_requireAlive_19
  · exact tv_throwW (text := "the node is not alive there") hx hb hlt hown hK hout hlocks (hl.1.trans hml.symm) fit_N at_Ng at_N0 (by decide) (hts (.classLink RX2 260 eN) (by decide +kernel)) (hts (.initialized eN) (by decide +kernel)) hatN (by decide) ⟨rfl, c_5⟩ ⟨Nat.le_of_ble_eq_true rfl, Nat.le_of_ble_eq_true rfl, Nat.le_of_ble_eq_true rfl, Nat.le_of_ble_eq_true rfl, Nat.le_of_ble_eq_true rfl, Nat.le_of_ble_eq_true rfl⟩ dX2_requireAlive_8 dX2_requireAlive_11 dX2_requireAlive_12 dX2_requireAlive_15 dX2_requireAlive_18

set_option maxHeartbeats 4000000 in
set_option maxRecDepth 100000 in
theorem k_X2_requireAdded (l : Launch) (hlt : l.stackTraces = false) (G : GT) (S : SS) {nc : Nat} (hnc : S.1 139 7 = nI nc) (h16 : nc ≤ 16) (x : Int32) : vx_Met l yX2_requireAdded wsX2_requireAdded ({ frames := 6, cells := 1, slots := 6, locals := 82 } : Room) (va_Pc [.ref (gA G 139), .int x] (cP G S)) (va_Sv (fun _ => ∃ j, j < nc ∧ x = nI j)) (xT (fun E => E = eN ∧ ¬ ∃ j, j < nc ∧ x = nI j)) 1 6 (fun _ => False) := by
  refine vx_ofW (cc := cX2_requireAdded) (maxL := 2) (ret := none) (by decide) rfl ?_
  intro p e s m args below meth c s₁ B hml hout hv
  obtain ⟨rfl, hW, hK⟩ := hv
  have hx := B.exec
  have hb := B.bytes
  have hr := B.returns
  have hts := atoms_spec (ws := wsX2_requireAdded) B.pre
  have hown : s.vm.findClass RX2 = some m.cls := findClass_of_methodNamed B.named
  have hlocks := B.notSynchronized
  have hS : va_S (gF G s.heap.size) s.heap s.heap [] := va_S.rf
  have inX2 : ∀ w ∈ u_ws RX2 TX2 10, w ∈ wsX2_requireAdded := by decide +kernel
  have hatN : ∀ w ∈ (vx_atS RX2 264 eN eU).filter goodWord, w.before _ s = true := fun w hw => hts w ((by decide +kernel : ∀ w ∈ (vx_atS RX2 264 eN eU).filter goodWord, w ∈ wsX2_requireAdded) w hw)
  have hl := lv_entry ([.ref (gA G 139), .int x]) (n := 2) (Nat.le_of_ble_eq_true rfl)
  rw [lg_entry_eq]
  generalize (lg_sl ([.ref (gA G 139), .int x]) ++ List.replicate (2 - (lg_sl ([.ref (gA G 139), .int x])).length) Slot.unset).toArray = ls at hl ⊢
  have hl : lv_has ls 2 [(0, .ref (gA G 139)), (1, .int x)] := hl
  refine lv_iload_n hx hb dX2_requireAdded_0 rfl (lv_at hl 1 rfl) ?_
  refine lv_if_lt (tgt := 12) hx hb dX2_requireAdded_1 (by decide) (fun c_1 => ?_) (fun c_1 => ?_)
  · exact tv_throwW (text := "no such node") hx hb hlt hown hK hout hlocks (hl.1.trans hml.symm) fit_N at_Ng at_N0 (by decide) (hts (.classLink RX2 260 eN) (by decide +kernel)) (hts (.initialized eN) (by decide +kernel)) hatN (by decide) ⟨rfl, rng_no0 c_1 (by omega)⟩ ⟨Nat.le_of_ble_eq_true rfl, Nat.le_of_ble_eq_true rfl, Nat.le_of_ble_eq_true rfl, Nat.le_of_ble_eq_true rfl, Nat.le_of_ble_eq_true rfl, Nat.le_of_ble_eq_true rfl⟩ dX2_requireAdded_12 dX2_requireAdded_15 dX2_requireAdded_16 dX2_requireAdded_19 dX2_requireAdded_22
  · refine lv_iload_n hx hb dX2_requireAdded_4 rfl (lv_at hl 1 rfl) ?_
    refine lv_aload_n hx hb dX2_requireAdded_5 rfl (lv_at hl 0 rfl) ?_
    refine va_get (D := gD G) (ci := 2) (v := .int (nI nc)) (C := RX2) (T := TX2) (N := 10) hx hb hts inX2 hown hK.1 hW 139 cw_O rfl 7 (by decide) (hts (.fieldLink RX2 40 "MarkedTrees" "nodeCount" "I") (by decide +kernel)) (fun _ h9 => h9) (by rw [← hnc]; rfl) dX2_requireAdded_6 ?_
    refine lv_icmp_lt (tgt := 23) hx hb dX2_requireAdded_9 (by decide) (fun c_9 => ?_) (fun c_9 => ?_)
    · refine vx_ret ?_
      refine W.widen (k := 1) (n := 6) (by omega) (by omega) ?_
      exact W.vret hx hb hr (fun t9 ht9 _ => ⟨rfl, (rng_lt c_1 c_9 (by omega)), ht9⟩) (fun _ h => by cases h) dX2_requireAdded_23
    · exact tv_throwW (text := "no such node") hx hb hlt hown hK hout hlocks (hl.1.trans hml.symm) fit_N at_Ng at_N0 (by decide) (hts (.classLink RX2 260 eN) (by decide +kernel)) (hts (.initialized eN) (by decide +kernel)) hatN (by decide) ⟨rfl, rng_no1 c_9 (by omega)⟩ ⟨Nat.le_of_ble_eq_true rfl, Nat.le_of_ble_eq_true rfl, Nat.le_of_ble_eq_true rfl, Nat.le_of_ble_eq_true rfl, Nat.le_of_ble_eq_true rfl, Nat.le_of_ble_eq_true rfl⟩ dX2_requireAdded_12 dX2_requireAdded_15 dX2_requireAdded_16 dX2_requireAdded_19 dX2_requireAdded_22

set_option maxHeartbeats 4000000 in
set_option maxRecDepth 100000 in
theorem k_X2_requireNotRoot (l : Launch) (hlt : l.stackTraces = false) (G : GT) (S : SS) (x : Int32) : vx_Met l yX2_requireNotRoot wsX2_requireNotRoot ({ frames := 6, cells := 1, slots := 6, locals := 82 } : Room) (va_Pc [.int x] (cP G S)) (va_Sv (fun _ => ¬ x = 0)) (xT (fun E => E = eA ∧ x = 0)) 1 6 (fun _ => False) := by
  refine vx_ofW (cc := cX2_requireNotRoot) (maxL := 1) (ret := none) (by decide) rfl ?_
  intro p e s m args below meth c s₁ B hml hout hv
  obtain ⟨rfl, hW, hK⟩ := hv
  have hx := B.exec
  have hb := B.bytes
  have hr := B.returns
  have hts := atoms_spec (ws := wsX2_requireNotRoot) B.pre
  have hown : s.vm.findClass RX2 = some m.cls := findClass_of_methodNamed B.named
  have hlocks := B.notSynchronized
  have hS : va_S (gF G s.heap.size) s.heap s.heap [] := va_S.rf
  have hatA : ∀ w ∈ (vx_atS RX2 90 eA eU).filter goodWord, w.before _ s = true := fun w hw => hts w ((by decide +kernel : ∀ w ∈ (vx_atS RX2 90 eA eU).filter goodWord, w ∈ wsX2_requireNotRoot) w hw)
  have hl := lv_entry ([.int x]) (n := 1) (Nat.le_of_ble_eq_true rfl)
  rw [lg_entry_eq]
  generalize (lg_sl ([.int x]) ++ List.replicate (1 - (lg_sl ([.int x])).length) Slot.unset).toArray = ls at hl ⊢
  have hl : lv_has ls 1 [(0, .int x)] := hl
  refine lv_iload_n hx hb dX2_requireNotRoot_0 rfl (lv_at hl 0 rfl) ?_
  refine lv_if_ne (tgt := 15) hx hb dX2_requireNotRoot_1 (by decide) (fun c_1 => ?_) (fun c_1 => ?_)
  · refine vx_ret ?_
    refine W.widen (k := 1) (n := 6) (by omega) (by omega) ?_
    exact W.vret hx hb hr (fun t9 ht9 _ => ⟨rfl, c_1, ht9⟩) (fun _ h => by cases h) dX2_requireNotRoot_15
  · exact tv_throwW (text := "the node is the root") hx hb hlt hown hK hout hlocks (hl.1.trans hml.symm) fit_A at_Ag at_A0 (by decide) (hts (.classLink RX2 86 eA) (by decide +kernel)) (hts (.initialized eA) (by decide +kernel)) hatA (by decide) ⟨rfl, c_1⟩ ⟨Nat.le_of_ble_eq_true rfl, Nat.le_of_ble_eq_true rfl, Nat.le_of_ble_eq_true rfl, Nat.le_of_ble_eq_true rfl, Nat.le_of_ble_eq_true rfl, Nat.le_of_ble_eq_true rfl⟩ dX2_requireNotRoot_4 dX2_requireNotRoot_7 dX2_requireNotRoot_8 dX2_requireNotRoot_11 dX2_requireNotRoot_14

set_option maxHeartbeats 4000000 in
set_option maxRecDepth 100000 in
theorem k_X2_requireScalar (l : Launch) (hlt : l.stackTraces = false) (G : GT) (S : SS) (x : Int32) : vx_Met l yX2_requireScalar wsX2_requireScalar ({ frames := 6, cells := 1, slots := 6, locals := 82 } : Room) (va_Pc [.int x] (cP G S)) (va_Sv (fun _ => ∃ w, w < 3 ∧ x = nI w)) (xT (fun E => E = eA ∧ ¬ ∃ w, w < 3 ∧ x = nI w)) 1 6 (fun _ => False) := by
  refine vx_ofW (cc := cX2_requireScalar) (maxL := 1) (ret := none) (by decide) rfl ?_
  intro p e s m args below meth c s₁ B hml hout hv
  obtain ⟨rfl, hW, hK⟩ := hv
  have hx := B.exec
  have hb := B.bytes
  have hr := B.returns
  have hts := atoms_spec (ws := wsX2_requireScalar) B.pre
  have hown : s.vm.findClass RX2 = some m.cls := findClass_of_methodNamed B.named
  have hlocks := B.notSynchronized
  have hS : va_S (gF G s.heap.size) s.heap s.heap [] := va_S.rf
  have hatA : ∀ w ∈ (vx_atS RX2 90 eA eU).filter goodWord, w.before _ s = true := fun w hw => hts w ((by decide +kernel : ∀ w ∈ (vx_atS RX2 90 eA eU).filter goodWord, w ∈ wsX2_requireScalar) w hw)
  have hl := lv_entry ([.int x]) (n := 1) (Nat.le_of_ble_eq_true rfl)
  rw [lg_entry_eq]
  generalize (lg_sl ([.int x]) ++ List.replicate (1 - (lg_sl ([.int x])).length) Slot.unset).toArray = ls at hl ⊢
  have hl : lv_has ls 1 [(0, .int x)] := hl
  refine lv_iload_n hx hb dX2_requireScalar_0 rfl (lv_at hl 0 rfl) ?_
  refine lv_if_lt (tgt := 9) hx hb dX2_requireScalar_1 (by decide) (fun c_1 => ?_) (fun c_1 => ?_)
  · exact tv_throwW (text := "no such scalar") hx hb hlt hown hK hout hlocks (hl.1.trans hml.symm) fit_A at_Ag at_A0 (by decide) (hts (.classLink RX2 86 eA) (by decide +kernel)) (hts (.initialized eA) (by decide +kernel)) hatA (by decide) ⟨rfl, rng_no0 c_1 (by decide)⟩ ⟨Nat.le_of_ble_eq_true rfl, Nat.le_of_ble_eq_true rfl, Nat.le_of_ble_eq_true rfl, Nat.le_of_ble_eq_true rfl, Nat.le_of_ble_eq_true rfl, Nat.le_of_ble_eq_true rfl⟩ dX2_requireScalar_9 dX2_requireScalar_12 dX2_requireScalar_13 dX2_requireScalar_16 dX2_requireScalar_19
  · refine lv_iload_n hx hb dX2_requireScalar_4 rfl (lv_at hl 0 rfl) ?_
    refine lv_iconst (v := nI 3) hx hb dX2_requireScalar_5 (by decide) ?_
    refine lv_icmp_lt (tgt := 20) hx hb dX2_requireScalar_6 (by decide) (fun c_6 => ?_) (fun c_6 => ?_)
    · refine vx_ret ?_
      refine W.widen (k := 1) (n := 6) (by omega) (by omega) ?_
      exact W.vret hx hb hr (fun t9 ht9 _ => ⟨rfl, (rng_lt c_1 c_6 (by decide)), ht9⟩) (fun _ h => by cases h) dX2_requireScalar_20
    · exact tv_throwW (text := "no such scalar") hx hb hlt hown hK hout hlocks (hl.1.trans hml.symm) fit_A at_Ag at_A0 (by decide) (hts (.classLink RX2 86 eA) (by decide +kernel)) (hts (.initialized eA) (by decide +kernel)) hatA (by decide) ⟨rfl, rng_no1 c_6 (by decide)⟩ ⟨Nat.le_of_ble_eq_true rfl, Nat.le_of_ble_eq_true rfl, Nat.le_of_ble_eq_true rfl, Nat.le_of_ble_eq_true rfl, Nat.le_of_ble_eq_true rfl, Nat.le_of_ble_eq_true rfl⟩ dX2_requireScalar_9 dX2_requireScalar_12 dX2_requireScalar_13 dX2_requireScalar_16 dX2_requireScalar_19

set_option maxHeartbeats 4000000 in
set_option maxRecDepth 100000 in
theorem k_X2_requireKey (l : Launch) (hlt : l.stackTraces = false) (G : GT) (S : SS) (x : Int32) : vx_Met l yX2_requireKey wsX2_requireKey ({ frames := 6, cells := 1, slots := 6, locals := 82 } : Room) (va_Pc [.int x] (cP G S)) (va_Sv (fun _ => ∃ w, w < 4 ∧ x = nI w)) (xT (fun E => E = eN ∧ ¬ ∃ w, w < 4 ∧ x = nI w)) 1 6 (fun _ => False) := by
  refine vx_ofW (cc := cX2_requireKey) (maxL := 1) (ret := none) (by decide) rfl ?_
  intro p e s m args below meth c s₁ B hml hout hv
  obtain ⟨rfl, hW, hK⟩ := hv
  have hx := B.exec
  have hb := B.bytes
  have hr := B.returns
  have hts := atoms_spec (ws := wsX2_requireKey) B.pre
  have hown : s.vm.findClass RX2 = some m.cls := findClass_of_methodNamed B.named
  have hlocks := B.notSynchronized
  have hS : va_S (gF G s.heap.size) s.heap s.heap [] := va_S.rf
  have hatN : ∀ w ∈ (vx_atS RX2 264 eN eU).filter goodWord, w.before _ s = true := fun w hw => hts w ((by decide +kernel : ∀ w ∈ (vx_atS RX2 264 eN eU).filter goodWord, w ∈ wsX2_requireKey) w hw)
  have hl := lv_entry ([.int x]) (n := 1) (Nat.le_of_ble_eq_true rfl)
  rw [lg_entry_eq]
  generalize (lg_sl ([.int x]) ++ List.replicate (1 - (lg_sl ([.int x])).length) Slot.unset).toArray = ls at hl ⊢
  have hl : lv_has ls 1 [(0, .int x)] := hl
  refine lv_iload_n hx hb dX2_requireKey_0 rfl (lv_at hl 0 rfl) ?_
  refine lv_if_lt (tgt := 9) hx hb dX2_requireKey_1 (by decide) (fun c_1 => ?_) (fun c_1 => ?_)
  · exact tv_throwW (text := "no such key") hx hb hlt hown hK hout hlocks (hl.1.trans hml.symm) fit_N at_Ng at_N0 (by decide) (hts (.classLink RX2 260 eN) (by decide +kernel)) (hts (.initialized eN) (by decide +kernel)) hatN (by decide) ⟨rfl, rng_no0 c_1 (by decide)⟩ ⟨Nat.le_of_ble_eq_true rfl, Nat.le_of_ble_eq_true rfl, Nat.le_of_ble_eq_true rfl, Nat.le_of_ble_eq_true rfl, Nat.le_of_ble_eq_true rfl, Nat.le_of_ble_eq_true rfl⟩ dX2_requireKey_9 dX2_requireKey_12 dX2_requireKey_13 dX2_requireKey_16 dX2_requireKey_19
  · refine lv_iload_n hx hb dX2_requireKey_4 rfl (lv_at hl 0 rfl) ?_
    refine lv_iconst (v := nI 4) hx hb dX2_requireKey_5 (by decide) ?_
    refine lv_icmp_lt (tgt := 20) hx hb dX2_requireKey_6 (by decide) (fun c_6 => ?_) (fun c_6 => ?_)
    · refine vx_ret ?_
      refine W.widen (k := 1) (n := 6) (by omega) (by omega) ?_
      exact W.vret hx hb hr (fun t9 ht9 _ => ⟨rfl, (rng_lt c_1 c_6 (by decide)), ht9⟩) (fun _ h => by cases h) dX2_requireKey_20
    · exact tv_throwW (text := "no such key") hx hb hlt hown hK hout hlocks (hl.1.trans hml.symm) fit_N at_Ng at_N0 (by decide) (hts (.classLink RX2 260 eN) (by decide +kernel)) (hts (.initialized eN) (by decide +kernel)) hatN (by decide) ⟨rfl, rng_no1 c_6 (by decide)⟩ ⟨Nat.le_of_ble_eq_true rfl, Nat.le_of_ble_eq_true rfl, Nat.le_of_ble_eq_true rfl, Nat.le_of_ble_eq_true rfl, Nat.le_of_ble_eq_true rfl, Nat.le_of_ble_eq_true rfl⟩ dX2_requireKey_9 dX2_requireKey_12 dX2_requireKey_13 dX2_requireKey_16 dX2_requireKey_19

set_option maxHeartbeats 4000000 in
set_option maxRecDepth 100000 in
theorem k_X2_requireBranch (l : Launch) (hlt : l.stackTraces = false) (G : GT) (S : SS) (x : Int32) : vx_Met l yX2_requireBranch wsX2_requireBranch ({ frames := 6, cells := 1, slots := 6, locals := 82 } : Room) (va_Pc [.int x] (cP G S)) (va_Sv (fun _ => ∃ w, w < 3 ∧ x = nI w)) (xT (fun E => E = eN ∧ ¬ ∃ w, w < 3 ∧ x = nI w)) 1 6 (fun _ => False) := by
  refine vx_ofW (cc := cX2_requireBranch) (maxL := 1) (ret := none) (by decide) rfl ?_
  intro p e s m args below meth c s₁ B hml hout hv
  obtain ⟨rfl, hW, hK⟩ := hv
  have hx := B.exec
  have hb := B.bytes
  have hr := B.returns
  have hts := atoms_spec (ws := wsX2_requireBranch) B.pre
  have hown : s.vm.findClass RX2 = some m.cls := findClass_of_methodNamed B.named
  have hlocks := B.notSynchronized
  have hS : va_S (gF G s.heap.size) s.heap s.heap [] := va_S.rf
  have hatN : ∀ w ∈ (vx_atS RX2 264 eN eU).filter goodWord, w.before _ s = true := fun w hw => hts w ((by decide +kernel : ∀ w ∈ (vx_atS RX2 264 eN eU).filter goodWord, w ∈ wsX2_requireBranch) w hw)
  have hl := lv_entry ([.int x]) (n := 1) (Nat.le_of_ble_eq_true rfl)
  rw [lg_entry_eq]
  generalize (lg_sl ([.int x]) ++ List.replicate (1 - (lg_sl ([.int x])).length) Slot.unset).toArray = ls at hl ⊢
  have hl : lv_has ls 1 [(0, .int x)] := hl
  refine lv_iload_n hx hb dX2_requireBranch_0 rfl (lv_at hl 0 rfl) ?_
  refine lv_if_lt (tgt := 9) hx hb dX2_requireBranch_1 (by decide) (fun c_1 => ?_) (fun c_1 => ?_)
  · exact tv_throwW (text := "no such branch") hx hb hlt hown hK hout hlocks (hl.1.trans hml.symm) fit_N at_Ng at_N0 (by decide) (hts (.classLink RX2 260 eN) (by decide +kernel)) (hts (.initialized eN) (by decide +kernel)) hatN (by decide) ⟨rfl, rng_no0 c_1 (by decide)⟩ ⟨Nat.le_of_ble_eq_true rfl, Nat.le_of_ble_eq_true rfl, Nat.le_of_ble_eq_true rfl, Nat.le_of_ble_eq_true rfl, Nat.le_of_ble_eq_true rfl, Nat.le_of_ble_eq_true rfl⟩ dX2_requireBranch_9 dX2_requireBranch_12 dX2_requireBranch_13 dX2_requireBranch_16 dX2_requireBranch_19
  · refine lv_iload_n hx hb dX2_requireBranch_4 rfl (lv_at hl 0 rfl) ?_
    refine lv_iconst (v := nI 3) hx hb dX2_requireBranch_5 (by decide) ?_
    refine lv_icmp_lt (tgt := 20) hx hb dX2_requireBranch_6 (by decide) (fun c_6 => ?_) (fun c_6 => ?_)
    · refine vx_ret ?_
      refine W.widen (k := 1) (n := 6) (by omega) (by omega) ?_
      exact W.vret hx hb hr (fun t9 ht9 _ => ⟨rfl, (rng_lt c_1 c_6 (by decide)), ht9⟩) (fun _ h => by cases h) dX2_requireBranch_20
    · exact tv_throwW (text := "no such branch") hx hb hlt hown hK hout hlocks (hl.1.trans hml.symm) fit_N at_Ng at_N0 (by decide) (hts (.classLink RX2 260 eN) (by decide +kernel)) (hts (.initialized eN) (by decide +kernel)) hatN (by decide) ⟨rfl, rng_no1 c_6 (by decide)⟩ ⟨Nat.le_of_ble_eq_true rfl, Nat.le_of_ble_eq_true rfl, Nat.le_of_ble_eq_true rfl, Nat.le_of_ble_eq_true rfl, Nat.le_of_ble_eq_true rfl, Nat.le_of_ble_eq_true rfl⟩ dX2_requireBranch_9 dX2_requireBranch_12 dX2_requireBranch_13 dX2_requireBranch_16 dX2_requireBranch_19

set_option maxHeartbeats 4000000 in
set_option maxRecDepth 100000 in
theorem k_X2_isDirectory (l : Launch) (G : GT) (S : SS) {n : Nat} (hn : n < 16) : Met l yX2_isDirectory wsX2_isDirectory ({ frames := 1, cells := 0, slots := 0, locals := 22 } : Room) (va_Pc [.ref (gA G 139), .int (nI n)] (cP G S)) (vp_Si (fun r => r = bI (ti (S.1 139 6) n))) 0 0 (fun _ => False) := by
  refine Met.ofW (cc := cX2_isDirectory) (maxL := 2) (ret := (some .boolean)) (by decide) rfl ?_
  intro p e s m args below meth c s₁ B hml hv
  obtain ⟨rfl, hW, hK⟩ := hv
  have hx := B.exec
  have hb := B.bytes
  have hr := B.returns
  have hts := atoms_spec (ws := wsX2_isDirectory) B.pre
  have hown : s.vm.findClass RX2 = some m.cls := findClass_of_methodNamed B.named
  have hlocks := B.notSynchronized
  have hS : va_S (gF G s.heap.size) s.heap s.heap [] := va_S.rf
  have inX2 : ∀ w ∈ u_ws RX2 TX2 10, w ∈ wsX2_isDirectory := by decide +kernel
  have hl := lv_entry ([.ref (gA G 139), .int (nI n)]) (n := 2) (Nat.le_of_ble_eq_true rfl)
  rw [lg_entry_eq]
  generalize (lg_sl ([.ref (gA G 139), .int (nI n)]) ++ List.replicate (2 - (lg_sl ([.ref (gA G 139), .int (nI n)])).length) Slot.unset).toArray = ls at hl ⊢
  have hl : lv_has ls 2 [(0, .ref (gA G 139)), (1, .int (nI n))] := hl
  refine lv_aload_n hx hb dX2_isDirectory_0 rfl (lv_at hl 0 rfl) ?_
  refine va_get (D := gD G) (ci := 2) (v := .int (S.1 139 6)) (C := RX2) (T := TX2) (N := 10) hx hb hts inX2 hown hK.1 hW 139 cw_O rfl 6 (by decide) (hts (.fieldLink RX2 37 "MarkedTrees" "directories" "I") (by decide +kernel)) (fun _ h9 => h9) rfl dX2_isDirectory_1 ?_
  refine lv_i2l (v := (S.1 139 6).toInt64) hx hb dX2_isDirectory_4 rfl ?_
  refine lv_iload_n hx hb dX2_isDirectory_5 rfl (lv_at hl 1 rfl) ?_
  refine pv_i (va_runS (As := [.long ((S.1 139 6).toInt64), .int (nI n)]) (rest := []) ⟨hx, hb, hml, hown, hts⟩ (k_X2_isIn l ((S.1 139 6).toInt64) (k := n) (by omega)) (va_cwS 2 hts gX2_isDirectory_X2_isIn rfl rfl rfl (by decide +kernel) ⟨Nat.le_of_ble_eq_true rfl, Nat.le_of_ble_eq_true rfl⟩) ⟨(fun _ _ _ _ h => h), fun U _ _ => ⟨rfl, trivial⟩⟩ rfl rfl hl.1 rfl (lv_room (Nat.le_of_ble_eq_true rfl)) dX2_isDirectory_6 ⟨Nat.le_of_ble_eq_true rfl, Nat.le_of_ble_eq_true rfl⟩) (fun r_1 hr_1 => ?_)
  have hr_1 : r_1 = bI (tb ((S.1 139 6).toInt64) n) := hr_1
  subst hr_1
  exact W.zret (v := bI (tb ((S.1 139 6).toInt64) n)) hx hb hr (bI_nar _) (fun t9 ht9 _ => ⟨_, rfl, (by rw [ti_l _ (by omega)]), ht9⟩) (fun _ h => by cases h) dX2_isDirectory_9

set_option maxHeartbeats 4000000 in
set_option maxRecDepth 100000 in
theorem k_X2_requirePlace (l : Launch) (hlt : l.stackTraces = false) (G : GT) (S : SS) {n : Nat} (hn : n < 16) (x : Int32) : vx_Met l yX2_requirePlace wsX2_requirePlace ({ frames := 6, cells := 1, slots := 6, locals := 82 } : Room) (va_Pc [.ref (gA G 139), .int (nI n), .int x] (cP G S)) (va_Sv (fun _ => ti (S.1 139 6) n = true ∧ ∃ k, k < 10 ∧ x = nI k)) (xT (fun E => E = eA ∧ ¬ (ti (S.1 139 6) n = true ∧ ∃ k, k < 10 ∧ x = nI k))) 1 6 (fun _ => False) := by
  refine vx_ofW (cc := cX2_requirePlace) (maxL := 3) (ret := none) (by decide) rfl ?_
  intro p e s m args below meth c s₁ B hml hout hv
  obtain ⟨rfl, hW, hK⟩ := hv
  have hx := B.exec
  have hb := B.bytes
  have hr := B.returns
  have hts := atoms_spec (ws := wsX2_requirePlace) B.pre
  have hown : s.vm.findClass RX2 = some m.cls := findClass_of_methodNamed B.named
  have hlocks := B.notSynchronized
  have hS : va_S (gF G s.heap.size) s.heap s.heap [] := va_S.rf
  have hatA : ∀ w ∈ (vx_atS RX2 90 eA eU).filter goodWord, w.before _ s = true := fun w hw => hts w ((by decide +kernel : ∀ w ∈ (vx_atS RX2 90 eA eU).filter goodWord, w ∈ wsX2_requirePlace) w hw)
  have hl := lv_entry ([.ref (gA G 139), .int (nI n), .int x]) (n := 3) (Nat.le_of_ble_eq_true rfl)
  rw [lg_entry_eq]
  generalize (lg_sl ([.ref (gA G 139), .int (nI n), .int x]) ++ List.replicate (3 - (lg_sl ([.ref (gA G 139), .int (nI n), .int x])).length) Slot.unset).toArray = ls at hl ⊢
  have hl : lv_has ls 3 [(0, .ref (gA G 139)), (1, .int (nI n)), (2, .int x)] := hl
  refine lv_aload_n hx hb dX2_requirePlace_0 rfl (lv_at hl 0 rfl) ?_
  refine lv_iload_n hx hb dX2_requirePlace_1 rfl (lv_at hl 1 rfl) ?_
  refine pv_i (va_runV (As := [.int (nI n)]) (rest := []) ⟨hx, hb, hml, hown, hts⟩ (k_X2_isDirectory l G S (n := n) (by omega)) (cwV 1 hts gX2_requirePlace_X2_isDirectory rfl rfl rfl (by decide +kernel) ⟨Nat.le_of_ble_eq_true rfl, Nat.le_of_ble_eq_true rfl⟩) ⟨cP_blind, c_recv hW hK (k := 139) (ci := 2) cw_O rfl, cP_at hW hK hS⟩ rfl rfl hl.1 rfl (lv_room (Nat.le_of_ble_eq_true rfl)) dX2_requirePlace_2 ⟨Nat.le_of_ble_eq_true rfl, Nat.le_of_ble_eq_true rfl⟩) (fun r_1 hr_1 => ?_)
  have hr_1 : r_1 = bI (ti (S.1 139 6) n) := hr_1
  subst hr_1
  refine bv_if_ne (b := ti (S.1 139 6) n) (tgt := 19) hx hb dX2_requirePlace_5 (by decide) (fun c_5 => ?_) (fun c_5 => ?_)
  · refine lv_iload_n hx hb dX2_requirePlace_19 rfl (lv_at hl 2 rfl) ?_
    refine lv_if_lt (tgt := 29) hx hb dX2_requirePlace_20 (by decide) (fun c_20 => ?_) (fun c_20 => ?_)
    · exact tv_throwW (text := "no such name") hx hb hlt hown hK hout hlocks (hl.1.trans hml.symm) fit_A at_Ag at_A0 (by decide) (hts (.classLink RX2 86 eA) (by decide +kernel)) (hts (.initialized eA) (by decide +kernel)) hatA (by decide) ⟨rfl, fun h => rng_no0 c_20 (by decide) h.2⟩ ⟨Nat.le_of_ble_eq_true rfl, Nat.le_of_ble_eq_true rfl, Nat.le_of_ble_eq_true rfl, Nat.le_of_ble_eq_true rfl, Nat.le_of_ble_eq_true rfl, Nat.le_of_ble_eq_true rfl⟩ dX2_requirePlace_29 dX2_requirePlace_32 dX2_requirePlace_33 dX2_requirePlace_36 dX2_requirePlace_39
    · refine lv_iload_n hx hb dX2_requirePlace_23 rfl (lv_at hl 2 rfl) ?_
      refine lv_bipush (v := nI 10) hx hb dX2_requirePlace_24 (by decide) ?_
      refine lv_icmp_lt (tgt := 40) hx hb dX2_requirePlace_26 (by decide) (fun c_26 => ?_) (fun c_26 => ?_)
      · refine vx_ret ?_
        refine W.widen (k := 1) (n := 6) (by omega) (by omega) ?_
        exact W.vret hx hb hr (fun t9 ht9 _ => ⟨rfl, ⟨c_5, rng_lt c_20 c_26 (by decide)⟩, ht9⟩) (fun _ h => by cases h) dX2_requirePlace_40
      · exact tv_throwW (text := "no such name") hx hb hlt hown hK hout hlocks (hl.1.trans hml.symm) fit_A at_Ag at_A0 (by decide) (hts (.classLink RX2 86 eA) (by decide +kernel)) (hts (.initialized eA) (by decide +kernel)) hatA (by decide) ⟨rfl, fun h => rng_no1 c_26 (by decide) h.2⟩ ⟨Nat.le_of_ble_eq_true rfl, Nat.le_of_ble_eq_true rfl, Nat.le_of_ble_eq_true rfl, Nat.le_of_ble_eq_true rfl, Nat.le_of_ble_eq_true rfl, Nat.le_of_ble_eq_true rfl⟩ dX2_requirePlace_29 dX2_requirePlace_32 dX2_requirePlace_33 dX2_requirePlace_36 dX2_requirePlace_39
  · exact tv_throwW (text := "parent is a file") hx hb hlt hown hK hout hlocks (hl.1.trans hml.symm) fit_A at_Ag at_A0 (by decide) (hts (.classLink RX2 86 eA) (by decide +kernel)) (hts (.initialized eA) (by decide +kernel)) hatA (by decide) ⟨rfl, fun h => by rw [c_5] at h; cases h.1⟩ ⟨Nat.le_of_ble_eq_true rfl, Nat.le_of_ble_eq_true rfl, Nat.le_of_ble_eq_true rfl, Nat.le_of_ble_eq_true rfl, Nat.le_of_ble_eq_true rfl, Nat.le_of_ble_eq_true rfl⟩ dX2_requirePlace_8 dX2_requirePlace_11 dX2_requirePlace_12 dX2_requirePlace_15 dX2_requirePlace_18

set_option maxHeartbeats 4000000 in
set_option maxRecDepth 100000 in
theorem k_X2_upTo (l : Launch) (G : GT) (S : SS) {r0 : Nat} (h0 : r0 < 40) : Met l yX2_upTo wsX2_upTo ({ frames := 0, cells := 0, slots := 0, locals := 0 } : Room) (va_Pc [.ref (gA G 139), .int (nI r0)] (cP G S)) (vp_Sl (fun r => r = S.2 141 r0 ||| b64 r0)) 0 0 (fun _ => False) := by
  refine Met.ofW (cc := cX2_upTo) (maxL := 2) (ret := (some .long)) (by decide) rfl ?_
  intro p e s m args below meth c s₁ B hml hv
  obtain ⟨rfl, hW, hK⟩ := hv
  have hx := B.exec
  have hb := B.bytes
  have hr := B.returns
  have hts := atoms_spec (ws := wsX2_upTo) B.pre
  have hown : s.vm.findClass RX2 = some m.cls := findClass_of_methodNamed B.named
  have hlocks := B.notSynchronized
  have hS : va_S (gF G s.heap.size) s.heap s.heap [] := va_S.rf
  have inX2 : ∀ w ∈ u_ws RX2 TX2 10, w ∈ wsX2_upTo := by decide +kernel
  have hl := lv_entry ([.ref (gA G 139), .int (nI r0)]) (n := 2) (Nat.le_of_ble_eq_true rfl)
  rw [lg_entry_eq]
  generalize (lg_sl ([.ref (gA G 139), .int (nI r0)]) ++ List.replicate (2 - (lg_sl ([.ref (gA G 139), .int (nI r0)])).length) Slot.unset).toArray = ls at hl ⊢
  have hl : lv_has ls 2 [(0, .ref (gA G 139)), (1, .int (nI r0))] := hl
  refine lv_aload_n hx hb dX2_upTo_0 rfl (lv_at hl 0 rfl) ?_
  refine va_get (D := gD G) (ci := 2) (v := .ref (gA G 141)) (C := RX2) (T := TX2) (N := 10) hx hb hts inX2 hown hK.1 hW 139 cw_O rfl 3 (by decide) (hts (.fieldLink RX2 25 "MarkedTrees" "older" "[J") (by decide +kernel)) (fun _ h9 => h9) rfl dX2_upTo_1 ?_
  refine lv_iload_n hx hb dX2_upTo_4 rfl (lv_at hl 1 rfl) ?_
  refine nv_lald hx hb hK.1 hW 141 1 cw_A rfl (i := r0) (by omega) (by decide) dX2_upTo_5 ?_
  refine lv_lconst (v := 1) hx hb dX2_upTo_6 (by decide) ?_
  refine lv_iload_n hx hb dX2_upTo_7 rfl (lv_at hl 1 rfl) ?_
  refine lv_lshl (v := 1 <<< ((nI r0).toInt64 &&& 63)) hx hb dX2_upTo_8 rfl ?_
  refine lv_lor hx hb dX2_upTo_9 ?_
  exact W.lret (v := (S.2 141 r0) ||| (1 <<< ((nI r0).toInt64 &&& 63))) hx hb hr (fun t9 ht9 _ => ⟨_, rfl, rfl, ht9⟩) (fun _ h => by cases h) dX2_upTo_10

set_option maxHeartbeats 4000000 in
set_option maxRecDepth 100000 in
theorem k_X2_withAncestors (l : Launch) (G : GT) (S : SS) {rc : Nat} (hrc : S.1 139 4 = nI rc) (h40 : rc ≤ 40) (x : Int64) : Met l yX2_withAncestors wsX2_withAncestors ({ frames := 1, cells := 0, slots := 0, locals := 22 } : Room) (va_Pc [.ref (gA G 139), .long x] (cP G S)) (vp_Sl (fun r => r = waG S x rc 0 x)) 0 0 (fun _ => False) := by
  refine Met.ofW (cc := cX2_withAncestors) (maxL := 6) (ret := (some .long)) (by decide) rfl ?_
  intro p e s m args below meth c s₁ B hml hv
  obtain ⟨rfl, hW, hK⟩ := hv
  have hx := B.exec
  have hb := B.bytes
  have hr := B.returns
  have hts := atoms_spec (ws := wsX2_withAncestors) B.pre
  have hown : s.vm.findClass RX2 = some m.cls := findClass_of_methodNamed B.named
  have hlocks := B.notSynchronized
  have hS : va_S (gF G s.heap.size) s.heap s.heap [] := va_S.rf
  have inX2 : ∀ w ∈ u_ws RX2 TX2 10, w ∈ wsX2_withAncestors := by decide +kernel
  have hl := lv_entry ([.ref (gA G 139), .long x]) (n := 6) (Nat.le_of_ble_eq_true rfl)
  rw [lg_entry_eq]
  generalize (lg_sl ([.ref (gA G 139), .long x]) ++ List.replicate (6 - (lg_sl ([.ref (gA G 139), .long x])).length) Slot.unset).toArray = ls at hl ⊢
  have hl : lv_has ls 6 [(0, .ref (gA G 139)), (1, .long x)] := hl
  have LP : ∀ (n : Nat) (k : Nat) (a : Int64), (k + n = rc) → ∀ (ls : Array Slot), lv_has ls 6 [(0, .ref (gA G 139)), (1, .long x), (3, .long a), (5, .int (nI k))] → W p l e (headSpec wsX2_withAncestors ({ frames := 1, cells := 0, slots := 0, locals := 22 } : Room)).room s m ([.ref (gA G 139), .long x] : List Value).toArray below meth c s.heap [] 0 0 (MQ below (vp_Sl (fun r => r = waG S x n k a)) ([.ref (gA G 139), .long x] : List Value).toArray s 0 0 (fun _ => False)) (F0 m 5 ls []) := by
    intro n
    induction n with
    | zero =>
      intro k a h2 ls hl
      refine lv_iload hx hb dX2_withAncestors_5 (lv_at hl 3 rfl) ?_
      refine lv_aload_n hx hb dX2_withAncestors_7 rfl (lv_at hl 0 rfl) ?_
      refine va_get (D := gD G) (ci := 2) (v := .int (nI rc)) (C := RX2) (T := TX2) (N := 10) hx hb hts inX2 hown hK.1 hW 139 cw_O rfl 4 (by decide) (hts (.fieldLink RX2 29 "MarkedTrees" "revisionCount" "I") (by decide +kernel)) (fun _ h9 => h9) (by rw [← hrc]; rfl) dX2_withAncestors_8 ?_
      refine nv_icmp_ge (tgt := 39) hx hb (by omega) (by omega) dX2_withAncestors_11 (by decide) (fun c_11 => ?_) (fun c_11 => ?_)
      · refine lv_lload_n hx hb dX2_withAncestors_39 rfl (lv_at hl 2 rfl) ?_
        exact W.lret (v := a) hx hb hr (fun t9 ht9 _ => ⟨_, rfl, rfl, ht9⟩) (fun _ h => by cases h) dX2_withAncestors_40
      · exact absurd c_11 (by omega)
    | succ n ih =>
      intro k a h2 ls hl
      refine lv_iload hx hb dX2_withAncestors_5 (lv_at hl 3 rfl) ?_
      refine lv_aload_n hx hb dX2_withAncestors_7 rfl (lv_at hl 0 rfl) ?_
      refine va_get (D := gD G) (ci := 2) (v := .int (nI rc)) (C := RX2) (T := TX2) (N := 10) hx hb hts inX2 hown hK.1 hW 139 cw_O rfl 4 (by decide) (hts (.fieldLink RX2 29 "MarkedTrees" "revisionCount" "I") (by decide +kernel)) (fun _ h9 => h9) (by rw [← hrc]; rfl) dX2_withAncestors_8 ?_
      refine nv_icmp_ge (tgt := 39) hx hb (by omega) (by omega) dX2_withAncestors_11 (by decide) (fun c_11 => ?_) (fun c_11 => ?_)
      · exact absurd c_11 (by omega)
      · refine lv_lload_n hx hb dX2_withAncestors_14 rfl (lv_at hl 1 rfl) ?_
        refine lv_iload hx hb dX2_withAncestors_15 (lv_at hl 3 rfl) ?_
        refine pv_i (va_runS (As := [.long x, .int (nI k)]) (rest := []) ⟨hx, hb, hml, hown, hts⟩ (k_X2_isIn l x (k := k) (by omega)) (va_cwS 2 hts gX2_withAncestors_X2_isIn rfl rfl rfl (by decide +kernel) ⟨Nat.le_of_ble_eq_true rfl, Nat.le_of_ble_eq_true rfl⟩) ⟨(fun _ _ _ _ h => h), fun U _ _ => ⟨rfl, trivial⟩⟩ rfl rfl hl.1 rfl (lv_room (Nat.le_of_ble_eq_true rfl)) dX2_withAncestors_17 ⟨Nat.le_of_ble_eq_true rfl, Nat.le_of_ble_eq_true rfl⟩) (fun r_1 hr_1 => ?_)
        have hr_1 : r_1 = bI (tb x k) := hr_1
        subst hr_1
        refine bv_if_eq (b := tb x k) (tgt := 33) hx hb dX2_withAncestors_20 (by decide) (fun c_20 => ?_) (fun c_20 => ?_)
        · refine lv_iinc (v := nI (k + 1)) (lv' := [(5, .int (nI (k + 1))), (0, .ref (gA G 139)), (1, .long x), (3, .long a)]) hx hb dX2_withAncestors_33 hl (k := 3) rfl (nI_add k 1) (by decide) rfl (fun ls hl => ?_)
          refine lv_goto (tgt := 5) hx hb dX2_withAncestors_36 (by decide) ?_
          have E : waG S x (n + 1) k a = waG S x n (k + 1) (a) := by rw [waG]; simp [c_20]
          rw [E]
          exact ih (k + 1) _ (by omega) ls (lv_sub hl [1, 2, 3, 0] rfl)
        · refine lv_lload_n hx hb dX2_withAncestors_23 rfl (lv_at hl 2 rfl) ?_
          refine lv_aload_n hx hb dX2_withAncestors_24 rfl (lv_at hl 0 rfl) ?_
          refine va_get (D := gD G) (ci := 2) (v := .ref (gA G 141)) (C := RX2) (T := TX2) (N := 10) hx hb hts inX2 hown hK.1 hW 139 cw_O rfl 3 (by decide) (hts (.fieldLink RX2 25 "MarkedTrees" "older" "[J") (by decide +kernel)) (fun _ h9 => h9) rfl dX2_withAncestors_25 ?_
          refine lv_iload hx hb dX2_withAncestors_28 (lv_at hl 3 rfl) ?_
          refine nv_lald hx hb hK.1 hW 141 1 cw_A rfl (i := k) (by omega) (by decide) dX2_withAncestors_30 ?_
          refine lv_lor hx hb dX2_withAncestors_31 ?_
          refine lv_lstore_n (lv' := [(3, .long (a ||| (S.2 141 k))), (0, .ref (gA G 139)), (1, .long x), (5, .int (nI k))]) hx hb dX2_withAncestors_32 rfl hl (by decide) rfl (fun ls hl => ?_)
          refine lv_iinc (v := nI (k + 1)) (lv' := [(5, .int (nI (k + 1))), (3, .long (a ||| (S.2 141 k))), (0, .ref (gA G 139)), (1, .long x)]) hx hb dX2_withAncestors_33 hl (k := 3) rfl (nI_add k 1) (by decide) rfl (fun ls hl => ?_)
          refine lv_goto (tgt := 5) hx hb dX2_withAncestors_36 (by decide) ?_
          have E : waG S x (n + 1) k a = waG S x n (k + 1) (a ||| (S.2 141 k)) := by rw [waG]; simp [c_20]
          rw [E]
          exact ih (k + 1) _ (by omega) ls (lv_sub hl [2, 3, 1, 0] rfl)
  refine lv_lload_n hx hb dX2_withAncestors_0 rfl (lv_at hl 1 rfl) ?_
  refine lv_lstore_n (lv' := [(3, .long x), (0, .ref (gA G 139)), (1, .long x)]) hx hb dX2_withAncestors_1 rfl hl (by decide) rfl (fun ls hl => ?_)
  refine lv_iconst (v := nI 0) hx hb dX2_withAncestors_2 (by decide) ?_
  refine lv_istore (lv' := [(5, .int (nI 0)), (3, .long x), (0, .ref (gA G 139)), (1, .long x)]) hx hb dX2_withAncestors_3 hl (by decide) rfl (fun ls hl => ?_)
  exact LP rc 0 x (by omega) ls (lv_sub hl [2, 3, 1, 0] rfl)

set_option maxHeartbeats 4000000 in
set_option maxRecDepth 100000 in
theorem k_X2_latestOf (l : Launch) (G : GT) (S : SS) {rc : Nat} (hrc : S.1 139 4 = nI rc) (h40 : rc ≤ 40) (x : Int64) : Met l yX2_latestOf wsX2_latestOf ({ frames := 1, cells := 0, slots := 0, locals := 22 } : Room) (va_Pc [.ref (gA G 139), .long x] (cP G S)) (vp_Sl (fun r => r = ltG S x rc 0 x)) 0 0 (fun _ => False) := by
  refine Met.ofW (cc := cX2_latestOf) (maxL := 6) (ret := (some .long)) (by decide) rfl ?_
  intro p e s m args below meth c s₁ B hml hv
  obtain ⟨rfl, hW, hK⟩ := hv
  have hx := B.exec
  have hb := B.bytes
  have hr := B.returns
  have hts := atoms_spec (ws := wsX2_latestOf) B.pre
  have hown : s.vm.findClass RX2 = some m.cls := findClass_of_methodNamed B.named
  have hlocks := B.notSynchronized
  have hS : va_S (gF G s.heap.size) s.heap s.heap [] := va_S.rf
  have inX2 : ∀ w ∈ u_ws RX2 TX2 10, w ∈ wsX2_latestOf := by decide +kernel
  have hl := lv_entry ([.ref (gA G 139), .long x]) (n := 6) (Nat.le_of_ble_eq_true rfl)
  rw [lg_entry_eq]
  generalize (lg_sl ([.ref (gA G 139), .long x]) ++ List.replicate (6 - (lg_sl ([.ref (gA G 139), .long x])).length) Slot.unset).toArray = ls at hl ⊢
  have hl : lv_has ls 6 [(0, .ref (gA G 139)), (1, .long x)] := hl
  have LP : ∀ (n : Nat) (k : Nat) (a : Int64), (k + n = rc) → ∀ (ls : Array Slot), lv_has ls 6 [(0, .ref (gA G 139)), (1, .long x), (3, .long a), (5, .int (nI k))] → W p l e (headSpec wsX2_latestOf ({ frames := 1, cells := 0, slots := 0, locals := 22 } : Room)).room s m ([.ref (gA G 139), .long x] : List Value).toArray below meth c s.heap [] 0 0 (MQ below (vp_Sl (fun r => r = ltG S x n k a)) ([.ref (gA G 139), .long x] : List Value).toArray s 0 0 (fun _ => False)) (F0 m 5 ls []) := by
    intro n
    induction n with
    | zero =>
      intro k a h2 ls hl
      refine lv_iload hx hb dX2_latestOf_5 (lv_at hl 3 rfl) ?_
      refine lv_aload_n hx hb dX2_latestOf_7 rfl (lv_at hl 0 rfl) ?_
      refine va_get (D := gD G) (ci := 2) (v := .int (nI rc)) (C := RX2) (T := TX2) (N := 10) hx hb hts inX2 hown hK.1 hW 139 cw_O rfl 4 (by decide) (hts (.fieldLink RX2 29 "MarkedTrees" "revisionCount" "I") (by decide +kernel)) (fun _ h9 => h9) (by rw [← hrc]; rfl) dX2_latestOf_8 ?_
      refine nv_icmp_ge (tgt := 43) hx hb (by omega) (by omega) dX2_latestOf_11 (by decide) (fun c_11 => ?_) (fun c_11 => ?_)
      · refine lv_lload_n hx hb dX2_latestOf_43 rfl (lv_at hl 2 rfl) ?_
        exact W.lret (v := a) hx hb hr (fun t9 ht9 _ => ⟨_, rfl, rfl, ht9⟩) (fun _ h => by cases h) dX2_latestOf_44
      · exact absurd c_11 (by omega)
    | succ n ih =>
      intro k a h2 ls hl
      refine lv_iload hx hb dX2_latestOf_5 (lv_at hl 3 rfl) ?_
      refine lv_aload_n hx hb dX2_latestOf_7 rfl (lv_at hl 0 rfl) ?_
      refine va_get (D := gD G) (ci := 2) (v := .int (nI rc)) (C := RX2) (T := TX2) (N := 10) hx hb hts inX2 hown hK.1 hW 139 cw_O rfl 4 (by decide) (hts (.fieldLink RX2 29 "MarkedTrees" "revisionCount" "I") (by decide +kernel)) (fun _ h9 => h9) (by rw [← hrc]; rfl) dX2_latestOf_8 ?_
      refine nv_icmp_ge (tgt := 43) hx hb (by omega) (by omega) dX2_latestOf_11 (by decide) (fun c_11 => ?_) (fun c_11 => ?_)
      · exact absurd c_11 (by omega)
      · refine lv_lload_n hx hb dX2_latestOf_14 rfl (lv_at hl 1 rfl) ?_
        refine lv_iload hx hb dX2_latestOf_15 (lv_at hl 3 rfl) ?_
        refine pv_i (va_runS (As := [.long x, .int (nI k)]) (rest := []) ⟨hx, hb, hml, hown, hts⟩ (k_X2_isIn l x (k := k) (by omega)) (va_cwS 2 hts gX2_latestOf_X2_isIn rfl rfl rfl (by decide +kernel) ⟨Nat.le_of_ble_eq_true rfl, Nat.le_of_ble_eq_true rfl⟩) ⟨(fun _ _ _ _ h => h), fun U _ _ => ⟨rfl, trivial⟩⟩ rfl rfl hl.1 rfl (lv_room (Nat.le_of_ble_eq_true rfl)) dX2_latestOf_17 ⟨Nat.le_of_ble_eq_true rfl, Nat.le_of_ble_eq_true rfl⟩) (fun r_1 hr_1 => ?_)
        have hr_1 : r_1 = bI (tb x k) := hr_1
        subst hr_1
        refine bv_if_eq (b := tb x k) (tgt := 37) hx hb dX2_latestOf_20 (by decide) (fun c_20 => ?_) (fun c_20 => ?_)
        · refine lv_iinc (v := nI (k + 1)) (lv' := [(5, .int (nI (k + 1))), (0, .ref (gA G 139)), (1, .long x), (3, .long a)]) hx hb dX2_latestOf_37 hl (k := 3) rfl (nI_add k 1) (by decide) rfl (fun ls hl => ?_)
          refine lv_goto (tgt := 5) hx hb dX2_latestOf_40 (by decide) ?_
          have E : ltG S x (n + 1) k a = ltG S x n (k + 1) (a) := by rw [ltG]; simp [c_20]
          rw [E]
          exact ih (k + 1) _ (by omega) ls (lv_sub hl [1, 2, 3, 0] rfl)
        · refine lv_lload_n hx hb dX2_latestOf_23 rfl (lv_at hl 2 rfl) ?_
          refine lv_aload_n hx hb dX2_latestOf_24 rfl (lv_at hl 0 rfl) ?_
          refine va_get (D := gD G) (ci := 2) (v := .ref (gA G 141)) (C := RX2) (T := TX2) (N := 10) hx hb hts inX2 hown hK.1 hW 139 cw_O rfl 3 (by decide) (hts (.fieldLink RX2 25 "MarkedTrees" "older" "[J") (by decide +kernel)) (fun _ h9 => h9) rfl dX2_latestOf_25 ?_
          refine lv_iload hx hb dX2_latestOf_28 (lv_at hl 3 rfl) ?_
          refine nv_lald hx hb hK.1 hW 141 1 cw_A rfl (i := k) (by omega) (by decide) dX2_latestOf_30 ?_
          refine lv_ldc2 (v := (-1)) hx hb hown (hts (.constantLong RX2 292 (-1)) (by decide +kernel)) dX2_latestOf_31 ?_
          refine lv_lxor hx hb dX2_latestOf_34 ?_
          refine lv_land hx hb dX2_latestOf_35 ?_
          refine lv_lstore_n (lv' := [(3, .long (a &&& ((S.2 141 k) ^^^ (-1)))), (0, .ref (gA G 139)), (1, .long x), (5, .int (nI k))]) hx hb dX2_latestOf_36 rfl hl (by decide) rfl (fun ls hl => ?_)
          refine lv_iinc (v := nI (k + 1)) (lv' := [(5, .int (nI (k + 1))), (3, .long (a &&& ((S.2 141 k) ^^^ (-1)))), (0, .ref (gA G 139)), (1, .long x)]) hx hb dX2_latestOf_37 hl (k := 3) rfl (nI_add k 1) (by decide) rfl (fun ls hl => ?_)
          refine lv_goto (tgt := 5) hx hb dX2_latestOf_40 (by decide) ?_
          have E : ltG S x (n + 1) k a = ltG S x n (k + 1) (a &&& ((S.2 141 k) ^^^ (-1))) := by rw [ltG]; simp [c_20]
          rw [E]
          exact ih (k + 1) _ (by omega) ls (lv_sub hl [2, 3, 1, 0] rfl)
  refine lv_lload_n hx hb dX2_latestOf_0 rfl (lv_at hl 1 rfl) ?_
  refine lv_lstore_n (lv' := [(3, .long x), (0, .ref (gA G 139)), (1, .long x)]) hx hb dX2_latestOf_1 rfl hl (by decide) rfl (fun ls hl => ?_)
  refine lv_iconst (v := nI 0) hx hb dX2_latestOf_2 (by decide) ?_
  refine lv_istore (lv' := [(5, .int (nI 0)), (3, .long x), (0, .ref (gA G 139)), (1, .long x)]) hx hb dX2_latestOf_3 hl (by decide) rfl (fun ls hl => ?_)
  exact LP rc 0 x (by omega) ls (lv_sub hl [2, 3, 1, 0] rfl)

set_option maxHeartbeats 4000000 in
set_option maxRecDepth 100000 in
theorem k_X2_makeRevision (l : Launch) (G : GT) (S : SS) (sz : Nat) {rc : Nat} (hrc : S.1 139 4 = nI rc) (h40 : rc < 40) {i : Nat} (hi : i < 2) (x : Int64) {t : Nat} (ht : t < 43) : Met l yX2_makeRevision wsX2_makeRevision ({ frames := 2, cells := 0, slots := 0, locals := 81 } : Room) (va_Pc [.ref (gA G 139), .ref (gA G (129 + 5 * i)), .long x, .ref (gA G (3 * t))] (fun U => U.heap.size = sz ∧ cP G S U)) (va_Qi (fun r S' => r = nI rc ∧ S' = mrS S rc i t x) (cB G) (gF G sz)) 0 0 (gF G sz) := by
  refine Met.ofW (cc := cX2_makeRevision) (maxL := 6) (ret := (some .int)) (by decide) rfl ?_
  intro p e s m args below meth c s₁ B hml hv
  obtain ⟨rfl, hsz, hW, hK⟩ := hv
  subst hsz
  have hx := B.exec
  have hb := B.bytes
  have hr := B.returns
  have hts := atoms_spec (ws := wsX2_makeRevision) B.pre
  have hown : s.vm.findClass RX2 = some m.cls := findClass_of_methodNamed B.named
  have hlocks := B.notSynchronized
  have hS : va_S (gF G s.heap.size) s.heap s.heap [] := va_S.rf
  have inX0 : ∀ w ∈ u_ws RX0 TX0 10, w ∈ wsX2_makeRevision := by decide +kernel
  have inX2 : ∀ w ∈ u_ws RX2 TX2 10, w ∈ wsX2_makeRevision := by decide +kernel
  have hl := lv_entry ([.ref (gA G 139), .ref (gA G (129 + 5 * i)), .long x, .ref (gA G (3 * t))]) (n := 6) (Nat.le_of_ble_eq_true rfl)
  rw [lg_entry_eq]
  generalize (lg_sl ([.ref (gA G 139), .ref (gA G (129 + 5 * i)), .long x, .ref (gA G (3 * t))]) ++ List.replicate (6 - (lg_sl ([.ref (gA G 139), .ref (gA G (129 + 5 * i)), .long x, .ref (gA G (3 * t))])).length) Slot.unset).toArray = ls at hl ⊢
  have hl : lv_has ls 6 [(0, .ref (gA G 139)), (1, .ref (gA G (129 + 5 * i))), (2, .long x), (4, .ref (gA G (3 * t)))] := hl
  refine lv_aload_n hx hb dX2_makeRevision_0 rfl (lv_at hl 0 rfl) ?_
  refine va_get (D := gD G) (ci := 2) (v := .int (nI rc)) (C := RX2) (T := TX2) (N := 10) hx hb hts inX2 hown hK.1 hW 139 cw_O rfl 4 (by decide) (hts (.fieldLink RX2 29 "MarkedTrees" "revisionCount" "I") (by decide +kernel)) (fun _ h9 => h9) (by rw [← hrc]; rfl) dX2_makeRevision_1 ?_
  refine lv_istore (lv' := [(5, .int (nI rc)), (0, .ref (gA G 139)), (1, .ref (gA G (129 + 5 * i))), (2, .long x), (4, .ref (gA G (3 * t)))]) hx hb dX2_makeRevision_4 hl (by decide) rfl (fun ls hl => ?_)
  refine lv_aload_n hx hb dX2_makeRevision_6 rfl (lv_at hl 1 rfl) ?_
  refine lv_dup hx hb dX2_makeRevision_7 rfl ?_
  refine va_get (D := gD G) (ci := 2) (v := .int (nI rc)) (C := RX2) (T := TX2) (N := 10) hx hb hts inX2 hown hK.1 hW 139 cw_O rfl 4 (by decide) (hts (.fieldLink RX2 29 "MarkedTrees" "revisionCount" "I") (by decide +kernel)) (fun _ h9 => h9) (by rw [← hrc]; rfl) dX2_makeRevision_8 ?_
  refine lv_iconst (v := nI 1) hx hb dX2_makeRevision_11 (by decide) ?_
  refine nv_iadd hx hb dX2_makeRevision_12 ?_
  refine va_put (D := gD G) (ci := 2) (v := .int (nI (rc + 1))) (ty := .int) (C := RX2) (T := TX2) (N := 10) hx hb hts inX2 tyX2 tyX2_ok nmX2 hown hK.1 hW (wl_D hK.2.1) hS 139 cw_O rfl 4 (by decide) (hts (.fieldLink RX2 29 "MarkedTrees" "revisionCount" "I") (by decide +kernel)) (fun _ h9 => h9) rfl (by decide +kernel) rfl rfl (Nat.le_of_ble_eq_true rfl) dX2_makeRevision_13 (fun H locs hW _ hS => ?_)
  have hW : cW G (s1 S 139 4 (nI (rc + 1))) H := cp_O_4 hW
  obtain ⟨S_1, eS_1⟩ : ∃ z, z = s1 S 139 4 (nI (rc + 1)) := ⟨_, rfl⟩
  rw [← eS_1] at hW
  refine lv_aload_n hx hb dX2_makeRevision_16 rfl (lv_at hl 1 rfl) ?_
  refine va_get (D := gD G) (ci := 2) (v := .ref (gA G 141)) (C := RX2) (T := TX2) (N := 10) hx hb hts inX2 hown hK.1 hW 139 cw_O rfl 3 (by decide) (hts (.fieldLink RX2 25 "MarkedTrees" "older" "[J") (by decide +kernel)) (fun _ h9 => h9) rfl dX2_makeRevision_17 ?_
  refine lv_iload hx hb dX2_makeRevision_20 (lv_at hl 0 rfl) ?_
  refine lv_lload_n hx hb dX2_makeRevision_22 rfl (lv_at hl 3 rfl) ?_
  refine nv_last hx hb hK.1 hW (wl_D hK.2.1) hS 141 1 cw_A rfl (i := rc) (by omega) (by decide) dX2_makeRevision_23 (fun H locs hW hS => ?_)
  have hW : cW G (s2 S_1 141 rc x) H := cp_A hW
  obtain ⟨S_2, eS_2⟩ : ∃ z, z = s2 S_1 141 rc x := ⟨_, rfl⟩
  rw [← eS_2] at hW
  refine lv_aload_n hx hb dX2_makeRevision_24 rfl (lv_at hl 1 rfl) ?_
  refine va_get (D := gD G) (ci := 2) (v := .ref (gA G 140)) (C := RX2) (T := TX2) (N := 10) hx hb hts inX2 hown hK.1 hW 139 cw_O rfl 2 (by decide) (hts (.fieldLink RX2 21 "MarkedTrees" "trees" "[LMarkedTrees$Tree;") (by decide +kernel)) (fun _ h9 => h9) rfl dX2_makeRevision_25 ?_
  refine lv_iload hx hb dX2_makeRevision_28 (lv_at hl 0 rfl) ?_
  refine nv_aald hx hb hK.1 hW 140 3 cw_R rfl (i := rc) (b := gA G (3 * rc)) (by omega) (by decide) rfl dX2_makeRevision_30 ?_
  refine lv_aload hx hb dX2_makeRevision_31 (lv_at hl 4 rfl) ?_
  refine ev_v (va_runV (As := [.ref (gA G (3 * t))]) (rest := []) ⟨hx, hb, hml, hown, hts⟩ (k_X1_copyFrom l G S_2 H.size (t := rc) (by omega) (u := t) (by omega)) (cwV 1 hts gX2_makeRevision_X1_copyFrom rfl rfl rfl (by decide +kernel) ⟨Nat.le_of_ble_eq_true rfl, Nat.le_of_ble_eq_true rfl⟩) ⟨cQ_blind, c_recv hW hK (k := (3 * rc)) (ci := 1) (cw_T (t := rc) (by omega)) rfl, cQ_at hW hK hS⟩ rfl rfl hl.1 rfl (lv_room (Nat.le_of_ble_eq_true rfl)) dX2_makeRevision_33 ⟨Nat.le_of_ble_eq_true rfl, Nat.le_of_ble_eq_true rfl⟩) hS (fun S_3 t9 H locs ht9 hS_3 hW hS => ?_)
  have hW : cW G S_3 H := ht9 ▸ hW
  refine lv_aload_n hx hb dX2_makeRevision_36 rfl (lv_at hl 2 rfl) ?_
  refine lv_dup hx hb dX2_makeRevision_37 rfl ?_
  refine va_get (D := gD G) (ci := 0) (v := .long (S_3.2 (129 + 5 * i) 0)) (C := RX0) (T := TX0) (N := 10) hx hb hts inX0 hown hK.1 hW (129 + 5 * i) (cw_P (i := i) (by omega)) rfl 0 (by decide) (hts (.fieldLink RX2 256 "MarkedTrees$Peer" "held" "J") (by decide +kernel)) (fun _ h9 => h9) rfl dX2_makeRevision_38 ?_
  refine lv_lconst (v := 1) hx hb dX2_makeRevision_41 (by decide) ?_
  refine lv_iload hx hb dX2_makeRevision_42 (lv_at hl 0 rfl) ?_
  refine lv_lshl (v := 1 <<< ((nI rc).toInt64 &&& 63)) hx hb dX2_makeRevision_44 rfl ?_
  refine lv_lor hx hb dX2_makeRevision_45 ?_
  refine va_put (D := gD G) (ci := 0) (v := .long ((S_3.2 (129 + 5 * i) 0) ||| (1 <<< ((nI rc).toInt64 &&& 63)))) (ty := .long) (C := RX0) (T := TX0) (N := 10) hx hb hts inX0 tyX0 tyX0_ok nmX0 hown hK.1 hW (wl_D hK.2.1) hS (129 + 5 * i) (cw_P (i := i) (by omega)) rfl 0 (by decide) (hts (.fieldLink RX2 256 "MarkedTrees$Peer" "held" "J") (by decide +kernel)) (fun _ h9 => h9) rfl (by decide +kernel) rfl rfl (Nat.le_of_ble_eq_true rfl) dX2_makeRevision_46 (fun H locs hW _ hS => ?_)
  have hW : cW G (s2 S_3 (129 + 5 * i) 0 ((S_3.2 (129 + 5 * i) 0) ||| (1 <<< ((nI rc).toInt64 &&& 63)))) H := cp_P_0 (by omega) hW
  obtain ⟨S_4, eS_4⟩ : ∃ z, z = s2 S_3 (129 + 5 * i) 0 ((S_3.2 (129 + 5 * i) 0) ||| (1 <<< ((nI rc).toInt64 &&& 63))) := ⟨_, rfl⟩
  rw [← eS_4] at hW
  refine lv_iload hx hb dX2_makeRevision_49 (lv_at hl 0 rfl) ?_
  exact W.iret (v := nI rc) hx hb hr (fun t9 ht9 _ => ⟨⟨_, S_4, rfl, ⟨rfl, by subst_vars; rfl⟩, (show cW G S_4 t9.heap by rw [ht9]; exact hW)⟩, hS.F ht9⟩) hS.2.2 dX2_makeRevision_51
