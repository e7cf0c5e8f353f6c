set_option maxHeartbeats 4000000 in
set_option maxRecDepth 100000 in
theorem k_X3_nodes (l : Launch) (G : GT) (S : SS) (sz : Nat) {rc : Nat} (hrc : S.1 0 1 = nI rc) (h1r : 1 ≤ rc) (h40 : rc ≤ 40) (x y : Int32) : Met l yX3_nodes wsX3_nodes ({ frames := 2, cells := 0, slots := 0, locals := 44 } : Room) (va_Pc [.ref (gA G 0), .int x, .int y] (fun U => U.heap.size = sz ∧ mP G S U)) (va_Ql (fun r S' => ((mcNodes (mT S) rc x y) = 0 → r = maNodes (mT S) x y) ∧ S' = mF (mT S) (mcNodes (mT S) rc x y) (mT S)) (mB G) (gF G sz)) 0 0 (gF G sz) := by
  refine Met.ofW (cc := cX3_nodes) (maxL := 3) (ret := (some .long)) (by decide) rfl ?_
  intro p e s m args below meth c s₁ B hml hv
  obtain ⟨rfl, hsz, hW, hK⟩ := hv
  subst hsz
  have hx := B.exec
  have hb := B.bytes
  have hr := B.returns
  have hts := atoms_spec (ws := wsX3_nodes) B.pre
  have hown : s.vm.findClass RX3 = some m.cls := findClass_of_methodNamed B.named
  have hlocks := B.notSynchronized
  have hS : va_S (gF G s.heap.size) s.heap s.heap [] := va_S.rf
  have inX3 : ∀ w ∈ u_ws RX3 TX3 22, w ∈ wsX3_nodes := by decide +kernel
  have hl := lv_entry ([.ref (gA G 0), .int x, .int y]) (n := 3) (Nat.le_of_ble_eq_true rfl)
  rw [lg_entry_eq]
  generalize (lg_sl ([.ref (gA G 0), .int x, .int y]) ++ List.replicate (3 - (lg_sl ([.ref (gA G 0), .int x, .int y])).length) Slot.unset).toArray = ls at hl ⊢
  have hl : lv_has ls 3 [(0, .ref (gA G 0)), (1, .int x), (2, .int y)] := hl
  refine lv_aload_n hx hb dX3_nodes_0 rfl (lv_at hl 0 rfl) ?_
  refine lv_iconst (v := nI 0) hx hb dX3_nodes_1 (by decide) ?_
  refine va_put (D := gD G) (ci := 3) (v := .int (nI 0)) (ty := .int) (C := RX3) (T := TX3) (N := 22) hx hb hts inX3 tyX3 tyX3_ok nmX3 hown hK.1 hW (wl_D hK.2.1) hS 0 mw_0 rfl 0 (by decide) (hts (.fieldLink RX3 76 "MarkedTreesModel" "thrown" "I") (by decide +kernel)) (fun _ h9 => h9) rfl (by decide +kernel) rfl rfl (Nat.le_of_ble_eq_true rfl) dX3_nodes_2 (fun H locs hW _ hS => ?_)
  have hW : mW G (s1 S 0 0 (nI 0)) H := mp_0_0 hW
  obtain ⟨S_1, eS_1⟩ : ∃ z, z = s1 S 0 0 (nI 0) := ⟨_, rfl⟩
  rw [← eS_1] at hW
  have hT : S_1 = mT S := eS_1
  subst hT
  have hrcT : (mT S).1 0 1 = nI rc := (mT_0 _ (by omega)).trans hrc
  refine lv_iload_n hx hb dX3_nodes_5 rfl (lv_at hl 1 rfl) ?_
  refine pv_i (va_runS (As := [.int x]) (rest := []) ⟨hx, hb, hml, hown, hts⟩ (k_X3_isPeer l x) (va_cwS 1 hts gX3_nodes_X3_isPeer rfl rfl rfl (by decide +kernel) ⟨Nat.le_of_ble_eq_true rfl, Nat.le_of_ble_eq_true rfl⟩) ⟨(fun _ _ _ _ h => h), fun U _ _ => ⟨rfl, trivial⟩⟩ rfl rfl hl.1 rfl (lv_room (Nat.le_of_ble_eq_true rfl)) dX3_nodes_6 ⟨Nat.le_of_ble_eq_true rfl, Nat.le_of_ble_eq_true rfl⟩) (fun r_2 hr_2 => ?_)
  have hr_2 : r_2 = bI (isP x) := hr_2
  subst hr_2
  refine bv_if_eq (b := isP x) (tgt := 37) hx hb dX3_nodes_9 (by decide) (fun c_9 => ?_) (fun c_9 => ?_)
  · refine lv_aload_n hx hb dX3_nodes_37 rfl (lv_at hl 0 rfl) ?_
    refine lv_iconst (v := nI 1) hx hb dX3_nodes_38 (by decide) ?_
    refine ev_i (va_runV (As := [.int (nI 1)]) (rest := []) ⟨hx, hb, hml, hown, hts⟩ (k_X3_fail l G (mT S) H.size (nI 1)) (cwV 1 hts gX3_nodes_X3_fail rfl rfl rfl (by decide +kernel) ⟨Nat.le_of_ble_eq_true rfl, Nat.le_of_ble_eq_true rfl⟩) ⟨mQ_blind, m_recv hW hK, mQ_at hW hK hS⟩ rfl rfl hl.1 rfl (lv_room (Nat.le_of_ble_eq_true rfl)) dX3_nodes_39 ⟨Nat.le_of_ble_eq_true rfl, Nat.le_of_ble_eq_true rfl⟩) hS (fun r_4 S_3 t9 H locs ht9 hS_3 hW hS => ?_)
    have hW : mW G S_3 H := ht9 ▸ hW
    obtain ⟨rfl, eS_3⟩ := hS_3
    refine lv_i2l (v := (nI 0).toInt64) hx hb dX3_nodes_42 rfl ?_
    exact W.lret (v := (nI 0).toInt64) hx hb hr (fun t9 ht9 _ => ⟨⟨_, S_3, rfl, ⟨no0 (k := 1) (by unfold mcNodes; rw [if_neg (ne_true_of_eq_false c_9)]) (by decide), (by rw [mF_no (by unfold mcNodes; rw [if_neg (ne_true_of_eq_false c_9)]) (by decide)]; exact eS_3)⟩, (show mW G S_3 t9.heap by rw [ht9]; exact hW)⟩, hS.F ht9⟩) hS.2.2 dX3_nodes_43
  · obtain ⟨i_5, hi_5, rfl⟩ := isP_iff.mp c_9
    have cn_i_5 : cn (nI i_5) = i_5 := cn_nI (by omega)
    refine lv_iload_n hx hb dX3_nodes_12 rfl (lv_at hl 2 rfl) ?_
    refine lv_iconst (v := (-1)) hx hb dX3_nodes_13 (by decide) ?_
    refine lv_icmp_eq (tgt := 44) hx hb dX3_nodes_14 (by decide) (fun c_14 => ?_) (fun c_14 => ?_)
    · refine lv_iload_n hx hb dX3_nodes_44 rfl (lv_at hl 2 rfl) ?_
      refine lv_if_lt (tgt := 58) hx hb dX3_nodes_45 (by decide) (fun c_45 => ?_) (fun c_45 => ?_)
      · refine lv_aload_n hx hb dX3_nodes_58 rfl (lv_at hl 0 rfl) ?_
        refine va_get (D := gD G) (ci := 3) (v := .ref (gA G 11)) (C := RX3) (T := TX3) (N := 22) hx hb hts inX3 hown hK.1 hW 0 mw_0 rfl 13 (by decide) (hts (.fieldLink RX3 49 "MarkedTreesModel" "base" "[I") (by decide +kernel)) (fun _ h9 => h9) rfl dX3_nodes_59 ?_
        refine lv_iload_n hx hb dX3_nodes_62 rfl (lv_at hl 1 rfl) ?_
        refine nv_iald hx hb hK.1 hW 11 0 mw_11 rfl (i := i_5) (by omega) (by decide) dX3_nodes_63 ?_
        refine lv_if_ge (tgt := 71) hx hb dX3_nodes_64 (by decide) (fun c_64 => ?_) (fun c_64 => ?_)
        · refine lv_aload_n hx hb dX3_nodes_71 rfl (lv_at hl 0 rfl) ?_
          refine va_get (D := gD G) (ci := 3) (v := .ref (gA G 4)) (C := RX3) (T := TX3) (N := 22) hx hb hts inX3 hown hK.1 hW 0 mw_0 rfl 6 (by decide) (hts (.fieldLink RX3 28 "MarkedTreesModel" "alive" "[I") (by decide +kernel)) (fun _ h9 => h9) rfl dX3_nodes_72 ?_
          refine lv_bipush (v := nI 40) hx hb dX3_nodes_75 (by decide) ?_
          refine lv_iload_n hx hb dX3_nodes_77 rfl (lv_at hl 1 rfl) ?_
          refine nv_iadd hx hb dX3_nodes_78 ?_
          refine nv_iald hx hb hK.1 hW 4 0 mw_4 rfl (i := 40 + i_5) (by omega) (by decide) dX3_nodes_79 ?_
          refine lv_i2l (v := ((mT S).1 4 (40 + i_5)).toInt64) hx hb dX3_nodes_80 rfl ?_
          exact W.lret (v := ((mT S).1 4 (40 + i_5)).toInt64) hx hb hr (fun t9 ht9 _ => ⟨⟨_, (mT S), rfl, ⟨fun _ => (by unfold maNodes; simp only [cn_i_5]; rw [if_pos c_45, if_pos c_64]), (by rw [mF_ok (by unfold mcNodes; (try simp only [cn_i_5]); rw [if_pos (isP_nI hi_5), if_pos c_14])])⟩, (show mW G (mT S) t9.heap by rw [ht9]; exact hW)⟩, hS.F ht9⟩) hS.2.2 dX3_nodes_81
        · refine lv_lconst (v := 0) hx hb dX3_nodes_67 (by decide) ?_
          refine lv_goto (tgt := 81) hx hb dX3_nodes_68 (by decide) ?_
          exact W.lret (v := 0) hx hb hr (fun t9 ht9 _ => ⟨⟨_, (mT S), rfl, ⟨fun _ => (by unfold maNodes; simp only [cn_i_5]; rw [if_pos c_45, if_neg c_64]), (by rw [mF_ok (by unfold mcNodes; (try simp only [cn_i_5]); rw [if_pos (isP_nI hi_5), if_pos c_14])])⟩, (show mW G (mT S) t9.heap by rw [ht9]; exact hW)⟩, hS.F ht9⟩) hS.2.2 dX3_nodes_81
      · exact absurd c_45 (by rw [c_14]; decide)
    · refine lv_aload_n hx hb dX3_nodes_17 rfl (lv_at hl 0 rfl) ?_
      refine lv_iload_n hx hb dX3_nodes_18 rfl (lv_at hl 1 rfl) ?_
      refine pv_i (va_runS (As := [.int (nI i_5)]) (rest := [.ref (gA G 0)]) ⟨hx, hb, hml, hown, hts⟩ (k_X3_isPeer l (nI i_5)) (va_cwS 1 hts gX3_nodes_X3_isPeer rfl rfl rfl (by decide +kernel) ⟨Nat.le_of_ble_eq_true rfl, Nat.le_of_ble_eq_true rfl⟩) ⟨(fun _ _ _ _ h => h), fun U _ _ => ⟨rfl, trivial⟩⟩ rfl rfl hl.1 rfl (lv_room (Nat.le_of_ble_eq_true rfl)) dX3_nodes_19 ⟨Nat.le_of_ble_eq_true rfl, Nat.le_of_ble_eq_true rfl⟩) (fun r_6 hr_6 => ?_)
      have hr_6 : r_6 = bI (isP (nI i_5)) := hr_6
      subst hr_6
      refine bv_if_eq (b := isP (nI i_5)) (tgt := 29) hx hb dX3_nodes_22 (by decide) (fun c_22 => ?_) (fun c_22 => ?_)
      · exact absurd (isP_nI hi_5) (ne_true_of_eq_false c_22)
      · refine lv_iload_n hx hb dX3_nodes_25 rfl (lv_at hl 1 rfl) ?_
        refine lv_goto (tgt := 30) hx hb dX3_nodes_26 (by decide) ?_
        refine lv_iload_n hx hb dX3_nodes_30 rfl (lv_at hl 2 rfl) ?_
        refine pv_i (va_runV (As := [.int (nI i_5), .int y]) (rest := []) ⟨hx, hb, hml, hown, hts⟩ (k_X3_hasRevision l G (mT S) (rc := rc) hrcT (by omega) (by omega) (i := i_5) (by omega) y) (cwV 2 hts gX3_nodes_X3_hasRevision rfl rfl rfl (by decide +kernel) ⟨Nat.le_of_ble_eq_true rfl, Nat.le_of_ble_eq_true rfl⟩) ⟨mP_blind, m_recv hW hK, mP_at hW hK hS⟩ rfl rfl hl.1 rfl (lv_room (Nat.le_of_ble_eq_true rfl)) dX3_nodes_31 ⟨Nat.le_of_ble_eq_true rfl, Nat.le_of_ble_eq_true rfl⟩) (fun r_7 hr_7 => ?_)
        have hr_7 : r_7 = bI (mHas (mT S) rc i_5 y) := hr_7
        subst hr_7
        refine bv_if_ne (b := mHas (mT S) rc i_5 y) (tgt := 44) hx hb dX3_nodes_34 (by decide) (fun c_34 => ?_) (fun c_34 => ?_)
        · obtain ⟨j_8, hj_8, rfl, hb_34⟩ := mHas_of (by omega) c_34
          have cn_j_8 : cn (nI j_8) = j_8 := cn_nI (by omega)
          refine lv_iload_n hx hb dX3_nodes_44 rfl (lv_at hl 2 rfl) ?_
          refine lv_if_lt (tgt := 58) hx hb dX3_nodes_45 (by decide) (fun c_45 => ?_) (fun c_45 => ?_)
          · exact absurd c_45 (nI_pos (by omega))
          · refine lv_aload_n hx hb dX3_nodes_48 rfl (lv_at hl 0 rfl) ?_
            refine va_get (D := gD G) (ci := 3) (v := .ref (gA G 4)) (C := RX3) (T := TX3) (N := 22) hx hb hts inX3 hown hK.1 hW 0 mw_0 rfl 6 (by decide) (hts (.fieldLink RX3 28 "MarkedTreesModel" "alive" "[I") (by decide +kernel)) (fun _ h9 => h9) rfl dX3_nodes_49 ?_
            refine lv_iload_n hx hb dX3_nodes_52 rfl (lv_at hl 2 rfl) ?_
            refine nv_iald hx hb hK.1 hW 4 0 mw_4 rfl (i := j_8) (by omega) (by decide) dX3_nodes_53 ?_
            refine lv_i2l (v := ((mT S).1 4 j_8).toInt64) hx hb dX3_nodes_54 rfl ?_
            refine lv_goto (tgt := 81) hx hb dX3_nodes_55 (by decide) ?_
            exact W.lret (v := ((mT S).1 4 j_8).toInt64) hx hb hr (fun t9 ht9 _ => ⟨⟨_, (mT S), rfl, ⟨fun _ => (by unfold maNodes; simp only [cn_i_5, cn_j_8]; rw [if_neg c_45]), (by rw [mF_ok (by unfold mcNodes; (try simp only [cn_i_5, cn_j_8]); rw [if_pos (isP_nI hi_5), if_neg c_14, if_pos c_34])])⟩, (show mW G (mT S) t9.heap by rw [ht9]; exact hW)⟩, hS.F ht9⟩) hS.2.2 dX3_nodes_81
        · refine lv_aload_n hx hb dX3_nodes_37 rfl (lv_at hl 0 rfl) ?_
          refine lv_iconst (v := nI 1) hx hb dX3_nodes_38 (by decide) ?_
          refine ev_i (va_runV (As := [.int (nI 1)]) (rest := []) ⟨hx, hb, hml, hown, hts⟩ (k_X3_fail l G (mT S) H.size (nI 1)) (cwV 1 hts gX3_nodes_X3_fail rfl rfl rfl (by decide +kernel) ⟨Nat.le_of_ble_eq_true rfl, Nat.le_of_ble_eq_true rfl⟩) ⟨mQ_blind, m_recv hW hK, mQ_at hW hK hS⟩ rfl rfl hl.1 rfl (lv_room (Nat.le_of_ble_eq_true rfl)) dX3_nodes_39 ⟨Nat.le_of_ble_eq_true rfl, Nat.le_of_ble_eq_true rfl⟩) hS (fun r_10 S_9 t9 H locs ht9 hS_9 hW hS => ?_)
          have hW : mW G S_9 H := ht9 ▸ hW
          obtain ⟨rfl, eS_9⟩ := hS_9
          refine lv_i2l (v := (nI 0).toInt64) hx hb dX3_nodes_42 rfl ?_
          exact W.lret (v := (nI 0).toInt64) hx hb hr (fun t9 ht9 _ => ⟨⟨_, S_9, rfl, ⟨no0 (k := 1) (by unfold mcNodes; (try simp only [cn_i_5]); rw [if_pos (isP_nI hi_5), if_neg c_14, if_neg (ne_true_of_eq_false c_34)]) (by decide), (by rw [mF_no (by unfold mcNodes; (try simp only [cn_i_5]); rw [if_pos (isP_nI hi_5), if_neg c_14, if_neg (ne_true_of_eq_false c_34)]) (by decide)]; exact eS_9)⟩, (show mW G S_9 t9.heap by rw [ht9]; exact hW)⟩, hS.F ht9⟩) hS.2.2 dX3_nodes_43

set_option maxHeartbeats 4000000 in
set_option maxRecDepth 100000 in
theorem k_X3_ancestors (l : Launch) (G : GT) (S : SS) (sz : Nat) {rc : Nat} (hrc : S.1 0 1 = nI rc) (h1r : 1 ≤ rc) (h40 : rc ≤ 40) (x : Int32) : Met l yX3_ancestors wsX3_ancestors ({ frames := 1, cells := 0, slots := 0, locals := 22 } : Room) (va_Pc [.ref (gA G 0), .int x] (fun U => U.heap.size = sz ∧ mP G S U)) (va_Ql (fun r S' => ((cdAnc rc x) = 0 → r = (mT S).2 1 (cn x)) ∧ S' = mF (mT S) (cdAnc rc x) (mT S)) (mB G) (gF G sz)) 0 0 (gF G sz) := by
  refine Met.ofW (cc := cX3_ancestors) (maxL := 2) (ret := (some .long)) (by decide) rfl ?_
  intro p e s m args below meth c s₁ B hml hv
  obtain ⟨rfl, hsz, hW, hK⟩ := hv
  subst hsz
  have hx := B.exec
  have hb := B.bytes
  have hr := B.returns
  have hts := atoms_spec (ws := wsX3_ancestors) B.pre
  have hown : s.vm.findClass RX3 = some m.cls := findClass_of_methodNamed B.named
  have hlocks := B.notSynchronized
  have hS : va_S (gF G s.heap.size) s.heap s.heap [] := va_S.rf
  have inX3 : ∀ w ∈ u_ws RX3 TX3 22, w ∈ wsX3_ancestors := by decide +kernel
  have hl := lv_entry ([.ref (gA G 0), .int x]) (n := 2) (Nat.le_of_ble_eq_true rfl)
  rw [lg_entry_eq]
  generalize (lg_sl ([.ref (gA G 0), .int x]) ++ List.replicate (2 - (lg_sl ([.ref (gA G 0), .int x])).length) Slot.unset).toArray = ls at hl ⊢
  have hl : lv_has ls 2 [(0, .ref (gA G 0)), (1, .int x)] := hl
  refine lv_aload_n hx hb dX3_ancestors_0 rfl (lv_at hl 0 rfl) ?_
  refine lv_iconst (v := nI 0) hx hb dX3_ancestors_1 (by decide) ?_
  refine va_put (D := gD G) (ci := 3) (v := .int (nI 0)) (ty := .int) (C := RX3) (T := TX3) (N := 22) hx hb hts inX3 tyX3 tyX3_ok nmX3 hown hK.1 hW (wl_D hK.2.1) hS 0 mw_0 rfl 0 (by decide) (hts (.fieldLink RX3 76 "MarkedTreesModel" "thrown" "I") (by decide +kernel)) (fun _ h9 => h9) rfl (by decide +kernel) rfl rfl (Nat.le_of_ble_eq_true rfl) dX3_ancestors_2 (fun H locs hW _ hS => ?_)
  have hW : mW G (s1 S 0 0 (nI 0)) H := mp_0_0 hW
  obtain ⟨S_1, eS_1⟩ : ∃ z, z = s1 S 0 0 (nI 0) := ⟨_, rfl⟩
  rw [← eS_1] at hW
  have hT : S_1 = mT S := eS_1
  subst hT
  have hrcT : (mT S).1 0 1 = nI rc := (mT_0 _ (by omega)).trans hrc
  refine lv_iload_n hx hb dX3_ancestors_5 rfl (lv_at hl 1 rfl) ?_
  refine lv_iconst (v := nI 0) hx hb dX3_ancestors_6 (by decide) ?_
  refine lv_aload_n hx hb dX3_ancestors_7 rfl (lv_at hl 0 rfl) ?_
  refine va_get (D := gD G) (ci := 3) (v := .int (nI rc)) (C := RX3) (T := TX3) (N := 22) hx hb hts inX3 hown hK.1 hW 0 mw_0 rfl 1 (by decide) (hts (.fieldLink RX3 7 "MarkedTreesModel" "revisions" "I") (by decide +kernel)) (fun _ h9 => h9) (by rw [← hrcT]; rfl) dX3_ancestors_8 ?_
  refine lv_iconst (v := nI 1) hx hb dX3_ancestors_11 (by decide) ?_
  refine nv_isub hx hb (by omega) dX3_ancestors_12 ?_
  refine pv_i (va_runS (As := [.int x, .int (nI 0), .int (nI (rc - 1))]) (rest := []) ⟨hx, hb, hml, hown, hts⟩ (k_X3_in l x (nI 0) (nI (rc - 1))) (va_cwS 3 hts gX3_ancestors_X3_in rfl rfl rfl (by decide +kernel) ⟨Nat.le_of_ble_eq_true rfl, Nat.le_of_ble_eq_true rfl⟩) ⟨(fun _ _ _ _ h => h), fun U _ _ => ⟨rfl, trivial⟩⟩ rfl rfl hl.1 rfl (lv_room (Nat.le_of_ble_eq_true rfl)) dX3_ancestors_13 ⟨Nat.le_of_ble_eq_true rfl, Nat.le_of_ble_eq_true rfl⟩) (fun r_2 hr_2 => ?_)
  have hr_2 : r_2 = bI (inM x (nI 0) (nI (rc - 1))) := hr_2
  subst hr_2
  refine bv_if_eq (b := inM x (nI 0) (nI (rc - 1))) (tgt := 28) hx hb dX3_ancestors_16 (by decide) (fun c_16 => ?_) (fun c_16 => ?_)
  · have d_16 : inB x rc = false := by have h9 := (inM_B x (n := rc - 1) (by omega)).symm.trans c_16; rwa [Nat.sub_add_cancel (by omega)] at h9
    refine lv_aload_n hx hb dX3_ancestors_28 rfl (lv_at hl 0 rfl) ?_
    refine lv_iconst (v := nI 1) hx hb dX3_ancestors_29 (by decide) ?_
    refine ev_i (va_runV (As := [.int (nI 1)]) (rest := []) ⟨hx, hb, hml, hown, hts⟩ (k_X3_fail l G (mT S) H.size (nI 1)) (cwV 1 hts gX3_ancestors_X3_fail rfl rfl rfl (by decide +kernel) ⟨Nat.le_of_ble_eq_true rfl, Nat.le_of_ble_eq_true rfl⟩) ⟨mQ_blind, m_recv hW hK, mQ_at hW hK hS⟩ rfl rfl hl.1 rfl (lv_room (Nat.le_of_ble_eq_true rfl)) dX3_ancestors_30 ⟨Nat.le_of_ble_eq_true rfl, Nat.le_of_ble_eq_true rfl⟩) hS (fun r_4 S_3 t9 H locs ht9 hS_3 hW hS => ?_)
    have hW : mW G S_3 H := ht9 ▸ hW
    obtain ⟨rfl, eS_3⟩ := hS_3
    refine lv_i2l (v := (nI 0).toInt64) hx hb dX3_ancestors_33 rfl ?_
    exact W.lret (v := (nI 0).toInt64) hx hb hr (fun t9 ht9 _ => ⟨⟨_, S_3, rfl, ⟨no0 (k := 1) (by unfold cdAnc; rw [if_neg (ne_true_of_eq_false d_16)]) (by decide), (by rw [mF_no (by unfold cdAnc; rw [if_neg (ne_true_of_eq_false d_16)]) (by decide)]; exact eS_3)⟩, (show mW G S_3 t9.heap by rw [ht9]; exact hW)⟩, hS.F ht9⟩) hS.2.2 dX3_ancestors_34
  · have d_16 : inB x rc = true := by have h9 := (inM_B x (n := rc - 1) (by omega)).symm.trans c_16; rwa [Nat.sub_add_cancel (by omega)] at h9
    obtain ⟨n_5, hn_5, rfl⟩ := (inB_iff (by omega)).mp d_16
    have cn_n_5 : cn (nI n_5) = n_5 := cn_nI (by omega)
    refine lv_aload_n hx hb dX3_ancestors_19 rfl (lv_at hl 0 rfl) ?_
    refine va_get (D := gD G) (ci := 3) (v := .ref (gA G 1)) (C := RX3) (T := TX3) (N := 22) hx hb hts inX3 hown hK.1 hW 0 mw_0 rfl 2 (by decide) (hts (.fieldLink RX3 13 "MarkedTreesModel" "ancestors" "[J") (by decide +kernel)) (fun _ h9 => h9) rfl dX3_ancestors_20 ?_
    refine lv_iload_n hx hb dX3_ancestors_23 rfl (lv_at hl 1 rfl) ?_
    refine nv_lald hx hb hK.1 hW 1 1 mw_1 rfl (i := n_5) (by omega) (by decide) dX3_ancestors_24 ?_
    refine lv_goto (tgt := 34) hx hb dX3_ancestors_25 (by decide) ?_
    exact W.lret (v := (mT S).2 1 n_5) hx hb hr (fun t9 ht9 _ => ⟨⟨_, (mT S), rfl, ⟨fun _ => (by first | (simp only [cn_n_5]; done) | (simp only [cn_n_5]; rfl) | (rfl)), (by rw [mF_ok (by unfold cdAnc; (try simp only [cn_n_5]); rw [if_pos d_16])])⟩, (show mW G (mT S) t9.heap by rw [ht9]; exact hW)⟩, hS.F ht9⟩) hS.2.2 dX3_ancestors_34

set_option maxHeartbeats 4000000 in
set_option maxRecDepth 100000 in
theorem k_X3_certify (l : Launch) (G : GT) (S : SS) (sz : Nat) {rc : Nat} (hrc : S.1 0 1 = nI rc) (h1r : 1 ≤ rc) (h40 : rc ≤ 40) (x y z w : Int32) : Met l yX3_certify wsX3_certify ({ frames := 2, cells := 0, slots := 0, locals := 44 } : Room) (va_Pc [.ref (gA G 0), .int x, .int y, .int z, .int w] (fun U => U.heap.size = sz ∧ mP G S U)) (va_Qi (fun r S' => ((mcCertify (mT S) rc x y z w) = 0 → r = bI (!tb ((mT S).2 14 (12 * cn x + 3 * cn z + cn w)) (cn y))) ∧ S' = mF (mT S) (mcCertify (mT S) rc x y z w) (s2 (mT S) 14 (12 * cn x + 3 * cn z + cn w) ((mT S).2 14 (12 * cn x + 3 * cn z + cn w) ||| b64 (cn y)))) (mB G) (gF G sz)) 0 0 (gF G sz) := by
  refine Met.ofW (cc := cX3_certify) (maxL := 7) (ret := (some .boolean)) (by decide) rfl ?_
  intro p e s m args below meth c s₁ B hml hv
  obtain ⟨rfl, hsz, hW, hK⟩ := hv
  subst hsz
  have hx := B.exec
  have hb := B.bytes
  have hr := B.returns
  have hts := atoms_spec (ws := wsX3_certify) B.pre
  have hown : s.vm.findClass RX3 = some m.cls := findClass_of_methodNamed B.named
  have hlocks := B.notSynchronized
  have hS : va_S (gF G s.heap.size) s.heap s.heap [] := va_S.rf
  have inX3 : ∀ w ∈ u_ws RX3 TX3 22, w ∈ wsX3_certify := by decide +kernel
  have hl := lv_entry ([.ref (gA G 0), .int x, .int y, .int z, .int w]) (n := 7) (Nat.le_of_ble_eq_true rfl)
  rw [lg_entry_eq]
  generalize (lg_sl ([.ref (gA G 0), .int x, .int y, .int z, .int w]) ++ List.replicate (7 - (lg_sl ([.ref (gA G 0), .int x, .int y, .int z, .int w])).length) Slot.unset).toArray = ls at hl ⊢
  have hl : lv_has ls 7 [(0, .ref (gA G 0)), (1, .int x), (2, .int y), (3, .int z), (4, .int w)] := hl
  refine lv_aload_n hx hb dX3_certify_0 rfl (lv_at hl 0 rfl) ?_
  refine lv_iconst (v := nI 0) hx hb dX3_certify_1 (by decide) ?_
  refine va_put (D := gD G) (ci := 3) (v := .int (nI 0)) (ty := .int) (C := RX3) (T := TX3) (N := 22) hx hb hts inX3 tyX3 tyX3_ok nmX3 hown hK.1 hW (wl_D hK.2.1) hS 0 mw_0 rfl 0 (by decide) (hts (.fieldLink RX3 76 "MarkedTreesModel" "thrown" "I") (by decide +kernel)) (fun _ h9 => h9) rfl (by decide +kernel) rfl rfl (Nat.le_of_ble_eq_true rfl) dX3_certify_2 (fun H locs hW _ hS => ?_)
  have hW : mW G (s1 S 0 0 (nI 0)) H := mp_0_0 hW
  obtain ⟨S_1, eS_1⟩ : ∃ z, z = s1 S 0 0 (nI 0) := ⟨_, rfl⟩
  rw [← eS_1] at hW
  have hT : S_1 = mT S := eS_1
  subst hT
  have hrcT : (mT S).1 0 1 = nI rc := (mT_0 _ (by omega)).trans hrc
  refine lv_iload_n hx hb dX3_certify_5 rfl (lv_at hl 1 rfl) ?_
  refine pv_i (va_runS (As := [.int x]) (rest := []) ⟨hx, hb, hml, hown, hts⟩ (k_X3_isPeer l x) (va_cwS 1 hts gX3_certify_X3_isPeer rfl rfl rfl (by decide +kernel) ⟨Nat.le_of_ble_eq_true rfl, Nat.le_of_ble_eq_true rfl⟩) ⟨(fun _ _ _ _ h => h), fun U _ _ => ⟨rfl, trivial⟩⟩ rfl rfl hl.1 rfl (lv_room (Nat.le_of_ble_eq_true rfl)) dX3_certify_6 ⟨Nat.le_of_ble_eq_true rfl, Nat.le_of_ble_eq_true rfl⟩) (fun r_2 hr_2 => ?_)
  have hr_2 : r_2 = bI (isP x) := hr_2
  subst hr_2
  refine bv_if_eq (b := isP x) (tgt := 51) hx hb dX3_certify_9 (by decide) (fun c_9 => ?_) (fun c_9 => ?_)
  · refine lv_aload_n hx hb dX3_certify_51 rfl (lv_at hl 0 rfl) ?_
    refine lv_iconst (v := nI 1) hx hb dX3_certify_52 (by decide) ?_
    refine va_put (D := gD G) (ci := 3) (v := .int (nI 1)) (ty := .int) (C := RX3) (T := TX3) (N := 22) hx hb hts inX3 tyX3 tyX3_ok nmX3 hown hK.1 hW (wl_D hK.2.1) hS 0 mw_0 rfl 0 (by decide) (hts (.fieldLink RX3 76 "MarkedTreesModel" "thrown" "I") (by decide +kernel)) (fun _ h9 => h9) rfl (by decide +kernel) rfl rfl (Nat.le_of_ble_eq_true rfl) dX3_certify_53 (fun H locs hW _ hS => ?_)
    have hW : mW G (s1 (mT S) 0 0 (nI 1)) H := mp_0_0 hW
    obtain ⟨S_3, eS_3⟩ : ∃ z, z = s1 (mT S) 0 0 (nI 1) := ⟨_, rfl⟩
    rw [← eS_3] at hW
    refine lv_iconst (v := nI 0) hx hb dX3_certify_56 (by decide) ?_
    exact W.zret (v := nI 0) hx hb hr rfl (fun t9 ht9 _ => ⟨⟨_, S_3, rfl, ⟨no0 (k := 1) (by unfold mcCertify; rw [if_neg (ne_true_of_eq_false c_9)]) (by decide), (by rw [mF_no (by unfold mcCertify; rw [if_neg (ne_true_of_eq_false c_9)]) (by decide)]; exact eS_3)⟩, (show mW G S_3 t9.heap by rw [ht9]; exact hW)⟩, hS.F ht9⟩) hS.2.2 dX3_certify_57
  · obtain ⟨i_4, hi_4, rfl⟩ := isP_iff.mp c_9
    have cn_i_4 : cn (nI i_4) = i_4 := cn_nI (by omega)
    refine lv_aload_n hx hb dX3_certify_12 rfl (lv_at hl 0 rfl) ?_
    refine lv_iload_n hx hb dX3_certify_13 rfl (lv_at hl 1 rfl) ?_
    refine pv_i (va_runS (As := [.int (nI i_4)]) (rest := [.ref (gA G 0)]) ⟨hx, hb, hml, hown, hts⟩ (k_X3_isPeer l (nI i_4)) (va_cwS 1 hts gX3_certify_X3_isPeer rfl rfl rfl (by decide +kernel) ⟨Nat.le_of_ble_eq_true rfl, Nat.le_of_ble_eq_true rfl⟩) ⟨(fun _ _ _ _ h => h), fun U _ _ => ⟨rfl, trivial⟩⟩ rfl rfl hl.1 rfl (lv_room (Nat.le_of_ble_eq_true rfl)) dX3_certify_14 ⟨Nat.le_of_ble_eq_true rfl, Nat.le_of_ble_eq_true rfl⟩) (fun r_5 hr_5 => ?_)
    have hr_5 : r_5 = bI (isP (nI i_4)) := hr_5
    subst hr_5
    refine bv_if_eq (b := isP (nI i_4)) (tgt := 24) hx hb dX3_certify_17 (by decide) (fun c_17 => ?_) (fun c_17 => ?_)
    · exact absurd (isP_nI hi_4) (ne_true_of_eq_false c_17)
    · refine lv_iload_n hx hb dX3_certify_20 rfl (lv_at hl 1 rfl) ?_
      refine lv_goto (tgt := 25) hx hb dX3_certify_21 (by decide) ?_
      refine lv_iload_n hx hb dX3_certify_25 rfl (lv_at hl 2 rfl) ?_
      refine pv_i (va_runV (As := [.int (nI i_4), .int y]) (rest := []) ⟨hx, hb, hml, hown, hts⟩ (k_X3_hasRevision l G (mT S) (rc := rc) hrcT (by omega) (by omega) (i := i_4) (by omega) y) (cwV 2 hts gX3_certify_X3_hasRevision rfl rfl rfl (by decide +kernel) ⟨Nat.le_of_ble_eq_true rfl, Nat.le_of_ble_eq_true rfl⟩) ⟨mP_blind, m_recv hW hK, mP_at hW hK hS⟩ rfl rfl hl.1 rfl (lv_room (Nat.le_of_ble_eq_true rfl)) dX3_certify_26 ⟨Nat.le_of_ble_eq_true rfl, Nat.le_of_ble_eq_true rfl⟩) (fun r_6 hr_6 => ?_)
      have hr_6 : r_6 = bI (mHas (mT S) rc i_4 y) := hr_6
      subst hr_6
      refine bv_if_eq (b := mHas (mT S) rc i_4 y) (tgt := 51) hx hb dX3_certify_29 (by decide) (fun c_29 => ?_) (fun c_29 => ?_)
      · refine lv_aload_n hx hb dX3_certify_51 rfl (lv_at hl 0 rfl) ?_
        refine lv_iconst (v := nI 1) hx hb dX3_certify_52 (by decide) ?_
        refine va_put (D := gD G) (ci := 3) (v := .int (nI 1)) (ty := .int) (C := RX3) (T := TX3) (N := 22) hx hb hts inX3 tyX3 tyX3_ok nmX3 hown hK.1 hW (wl_D hK.2.1) hS 0 mw_0 rfl 0 (by decide) (hts (.fieldLink RX3 76 "MarkedTreesModel" "thrown" "I") (by decide +kernel)) (fun _ h9 => h9) rfl (by decide +kernel) rfl rfl (Nat.le_of_ble_eq_true rfl) dX3_certify_53 (fun H locs hW _ hS => ?_)
        have hW : mW G (s1 (mT S) 0 0 (nI 1)) H := mp_0_0 hW
        obtain ⟨S_7, eS_7⟩ : ∃ z, z = s1 (mT S) 0 0 (nI 1) := ⟨_, rfl⟩
        rw [← eS_7] at hW
        refine lv_iconst (v := nI 0) hx hb dX3_certify_56 (by decide) ?_
        exact W.zret (v := nI 0) hx hb hr rfl (fun t9 ht9 _ => ⟨⟨_, S_7, rfl, ⟨no0 (k := 1) (by unfold mcCertify; (try simp only [cn_i_4]); rw [if_pos (isP_nI hi_4), if_neg (ne_true_of_eq_false c_29)]) (by decide), (by rw [mF_no (by unfold mcCertify; (try simp only [cn_i_4]); rw [if_pos (isP_nI hi_4), if_neg (ne_true_of_eq_false c_29)]) (by decide)]; exact eS_7)⟩, (show mW G S_7 t9.heap by rw [ht9]; exact hW)⟩, hS.F ht9⟩) hS.2.2 dX3_certify_57
      · obtain ⟨j_8, hj_8, rfl, hb_29⟩ := mHas_of (by omega) c_29
        have cn_j_8 : cn (nI j_8) = j_8 := cn_nI (by omega)
        refine lv_iload_n hx hb dX3_certify_32 rfl (lv_at hl 3 rfl) ?_
        refine lv_iconst (v := nI 0) hx hb dX3_certify_33 (by decide) ?_
        refine lv_iconst (v := nI 3) hx hb dX3_certify_34 (by decide) ?_
        refine pv_i (va_runS (As := [.int z, .int (nI 0), .int (nI 3)]) (rest := []) ⟨hx, hb, hml, hown, hts⟩ (k_X3_in l z (nI 0) (nI 3)) (va_cwS 3 hts gX3_certify_X3_in rfl rfl rfl (by decide +kernel) ⟨Nat.le_of_ble_eq_true rfl, Nat.le_of_ble_eq_true rfl⟩) ⟨(fun _ _ _ _ h => h), fun U _ _ => ⟨rfl, trivial⟩⟩ rfl rfl hl.1 rfl (lv_room (Nat.le_of_ble_eq_true rfl)) dX3_certify_35 ⟨Nat.le_of_ble_eq_true rfl, Nat.le_of_ble_eq_true rfl⟩) (fun r_9 hr_9 => ?_)
        have hr_9 : r_9 = bI (inM z (nI 0) (nI 3)) := hr_9
        subst hr_9
        refine bv_if_eq (b := inM z (nI 0) (nI 3)) (tgt := 51) hx hb dX3_certify_38 (by decide) (fun c_38 => ?_) (fun c_38 => ?_)
        · have d_38 : inB z 4 = false := (inM_B z (n := 3) (by decide)).symm.trans c_38
          refine lv_aload_n hx hb dX3_certify_51 rfl (lv_at hl 0 rfl) ?_
          refine lv_iconst (v := nI 1) hx hb dX3_certify_52 (by decide) ?_
          refine va_put (D := gD G) (ci := 3) (v := .int (nI 1)) (ty := .int) (C := RX3) (T := TX3) (N := 22) hx hb hts inX3 tyX3 tyX3_ok nmX3 hown hK.1 hW (wl_D hK.2.1) hS 0 mw_0 rfl 0 (by decide) (hts (.fieldLink RX3 76 "MarkedTreesModel" "thrown" "I") (by decide +kernel)) (fun _ h9 => h9) rfl (by decide +kernel) rfl rfl (Nat.le_of_ble_eq_true rfl) dX3_certify_53 (fun H locs hW _ hS => ?_)
          have hW : mW G (s1 (mT S) 0 0 (nI 1)) H := mp_0_0 hW
          obtain ⟨S_10, eS_10⟩ : ∃ z, z = s1 (mT S) 0 0 (nI 1) := ⟨_, rfl⟩
          rw [← eS_10] at hW
          refine lv_iconst (v := nI 0) hx hb dX3_certify_56 (by decide) ?_
          exact W.zret (v := nI 0) hx hb hr rfl (fun t9 ht9 _ => ⟨⟨_, S_10, rfl, ⟨no0 (k := 1) (by unfold mcCertify; (try simp only [cn_i_4, cn_j_8]); rw [if_pos (isP_nI hi_4), if_pos c_29, if_neg (ne_true_of_eq_false d_38)]) (by decide), (by rw [mF_no (by unfold mcCertify; (try simp only [cn_i_4, cn_j_8]); rw [if_pos (isP_nI hi_4), if_pos c_29, if_neg (ne_true_of_eq_false d_38)]) (by decide)]; exact eS_10)⟩, (show mW G S_10 t9.heap by rw [ht9]; exact hW)⟩, hS.F ht9⟩) hS.2.2 dX3_certify_57
        · have d_38 : inB z 4 = true := (inM_B z (n := 3) (by decide)).symm.trans c_38
          obtain ⟨n_11, hn_11, rfl⟩ := (inB_iff (by omega)).mp d_38
          have cn_n_11 : cn (nI n_11) = n_11 := cn_nI (by omega)
          refine lv_iload hx hb dX3_certify_41 (lv_at hl 4 rfl) ?_
          refine lv_iconst (v := nI 0) hx hb dX3_certify_43 (by decide) ?_
          refine lv_iconst (v := nI 2) hx hb dX3_certify_44 (by decide) ?_
          refine pv_i (va_runS (As := [.int w, .int (nI 0), .int (nI 2)]) (rest := []) ⟨hx, hb, hml, hown, hts⟩ (k_X3_in l w (nI 0) (nI 2)) (va_cwS 3 hts gX3_certify_X3_in rfl rfl rfl (by decide +kernel) ⟨Nat.le_of_ble_eq_true rfl, Nat.le_of_ble_eq_true rfl⟩) ⟨(fun _ _ _ _ h => h), fun U _ _ => ⟨rfl, trivial⟩⟩ rfl rfl hl.1 rfl (lv_room (Nat.le_of_ble_eq_true rfl)) dX3_certify_45 ⟨Nat.le_of_ble_eq_true rfl, Nat.le_of_ble_eq_true rfl⟩) (fun r_12 hr_12 => ?_)
          have hr_12 : r_12 = bI (inM w (nI 0) (nI 2)) := hr_12
          subst hr_12
          refine bv_if_ne (b := inM w (nI 0) (nI 2)) (tgt := 58) hx hb dX3_certify_48 (by decide) (fun c_48 => ?_) (fun c_48 => ?_)
          · have d_48 : inB w 3 = true := (inM_B w (n := 2) (by decide)).symm.trans c_48
            obtain ⟨n_13, hn_13, rfl⟩ := (inB_iff (by omega)).mp d_48
            have cn_n_13 : cn (nI n_13) = n_13 := cn_nI (by omega)
            refine lv_bipush (v := nI 12) hx hb dX3_certify_58 (by decide) ?_
            refine lv_iload_n hx hb dX3_certify_60 rfl (lv_at hl 1 rfl) ?_
            refine nv_imul hx hb dX3_certify_61 ?_
            refine lv_iconst (v := nI 3) hx hb dX3_certify_62 (by decide) ?_
            refine lv_iload_n hx hb dX3_certify_63 rfl (lv_at hl 3 rfl) ?_
            refine nv_imul hx hb dX3_certify_64 ?_
            refine nv_iadd hx hb dX3_certify_65 ?_
            refine lv_iload hx hb dX3_certify_66 (lv_at hl 4 rfl) ?_
            refine nv_iadd hx hb dX3_certify_68 ?_
            refine lv_istore (lv' := [(5, .int (nI (((12 * i_4) + (3 * n_11)) + n_13))), (0, .ref (gA G 0)), (1, .int (nI i_4)), (2, .int (nI j_8)), (3, .int (nI n_11)), (4, .int (nI n_13))]) hx hb dX3_certify_69 hl (by decide) rfl (fun ls hl => ?_)
            refine lv_aload_n hx hb dX3_certify_71 rfl (lv_at hl 1 rfl) ?_
            refine va_get (D := gD G) (ci := 3) (v := .ref (gA G 14)) (C := RX3) (T := TX3) (N := 22) hx hb hts inX3 hown hK.1 hW 0 mw_0 rfl 16 (by decide) (hts (.fieldLink RX3 58 "MarkedTreesModel" "certificates" "[J") (by decide +kernel)) (fun _ h9 => h9) rfl dX3_certify_72 ?_
            refine lv_iload hx hb dX3_certify_75 (lv_at hl 0 rfl) ?_
            refine nv_lald hx hb hK.1 hW 14 1 mw_14 rfl (i := ((12 * i_4) + (3 * n_11)) + n_13) (by omega) (by decide) dX3_certify_77 ?_
            refine lv_iload_n hx hb dX3_certify_78 rfl (lv_at hl 3 rfl) ?_
            refine lv_lshr (v := ((mT S).2 14 (((12 * i_4) + (3 * n_11)) + n_13)) >>> ((nI j_8).toInt64 &&& 63)) hx hb dX3_certify_79 rfl ?_
            refine lv_lconst (v := 1) hx hb dX3_certify_80 (by decide) ?_
            refine lv_land hx hb dX3_certify_81 ?_
            refine lv_lconst (v := 1) hx hb dX3_certify_82 (by decide) ?_
            refine W.lcmp hx hb dX3_certify_83 ?_
            refine cv_if_ne (tgt := 91) hx hb dX3_certify_84 (by decide) (fun c_84 => ?_) (fun c_84 => ?_)
            · refine lv_iconst (v := nI 0) hx hb dX3_certify_91 (by decide) ?_
              refine lv_istore (lv' := [(6, .int (nI 0)), (5, .int (nI (((12 * i_4) + (3 * n_11)) + n_13))), (0, .ref (gA G 0)), (1, .int (nI i_4)), (2, .int (nI j_8)), (3, .int (nI n_11)), (4, .int (nI n_13))]) hx hb dX3_certify_92 hl (by decide) rfl (fun ls hl => ?_)
              refine lv_aload_n hx hb dX3_certify_94 rfl (lv_at hl 2 rfl) ?_
              refine va_get (D := gD G) (ci := 3) (v := .ref (gA G 14)) (C := RX3) (T := TX3) (N := 22) hx hb hts inX3 hown hK.1 hW 0 mw_0 rfl 16 (by decide) (hts (.fieldLink RX3 58 "MarkedTreesModel" "certificates" "[J") (by decide +kernel)) (fun _ h9 => h9) rfl dX3_certify_95 ?_
              refine lv_iload hx hb dX3_certify_98 (lv_at hl 1 rfl) ?_
              refine lv_dup2_11 hx hb dX3_certify_100 rfl rfl ?_
              refine nv_lald hx hb hK.1 hW 14 1 mw_14 rfl (i := ((12 * i_4) + (3 * n_11)) + n_13) (by omega) (by decide) dX3_certify_101 ?_
              refine lv_lconst (v := 1) hx hb dX3_certify_102 (by decide) ?_
              refine lv_iload_n hx hb dX3_certify_103 rfl (lv_at hl 4 rfl) ?_
              refine lv_lshl (v := 1 <<< ((nI j_8).toInt64 &&& 63)) hx hb dX3_certify_104 rfl ?_
              refine lv_lor hx hb dX3_certify_105 ?_
              refine nv_last hx hb hK.1 hW (wl_D hK.2.1) hS 14 1 mw_14 rfl (i := ((12 * i_4) + (3 * n_11)) + n_13) (by omega) (by decide) dX3_certify_106 (fun H locs hW hS => ?_)
              have hW : mW G (s2 (mT S) 14 (((12 * i_4) + (3 * n_11)) + n_13) (((mT S).2 14 (((12 * i_4) + (3 * n_11)) + n_13)) ||| (1 <<< ((nI j_8).toInt64 &&& 63)))) H := mp_14 hW
              obtain ⟨S_14, eS_14⟩ : ∃ z, z = s2 (mT S) 14 (((12 * i_4) + (3 * n_11)) + n_13) (((mT S).2 14 (((12 * i_4) + (3 * n_11)) + n_13)) ||| (1 <<< ((nI j_8).toInt64 &&& 63))) := ⟨_, rfl⟩
              rw [← eS_14] at hW
              refine lv_iload hx hb dX3_certify_107 (lv_at hl 0 rfl) ?_
              refine lv_if_ne (tgt := 116) hx hb dX3_certify_109 (by decide) (fun c_109 => ?_) (fun c_109 => ?_)
              · exact absurd c_109 (by decide)
              · refine lv_iconst (v := nI 1) hx hb dX3_certify_112 (by decide) ?_
                refine lv_goto (tgt := 117) hx hb dX3_certify_113 (by decide) ?_
                exact W.zret (v := nI 1) hx hb hr rfl (fun t9 ht9 _ => ⟨⟨_, S_14, rfl, ⟨fun _ => (by first | (simp only [cn_i_4, cn_j_8, cn_n_11, cn_n_13]; done) | (simp only [cn_i_4, cn_j_8, cn_n_11, cn_n_13]; exact bI_i1 (by cases h9 : tb _ _; rfl; exact absurd ((tb_shr1 _ (by omega)).mpr h9) c_84)) | (exact bI_i1 (by cases h9 : tb _ _; rfl; exact absurd ((tb_shr1 _ (by omega)).mpr h9) c_84))), (by rw [mF_ok (by unfold mcCertify; (try simp only [cn_i_4, cn_j_8, cn_n_11, cn_n_13]); rw [if_pos (isP_nI hi_4), if_pos c_29, if_pos d_38, if_pos d_48])]; (try simp only [cn_i_4, cn_j_8, cn_n_11, cn_n_13]); exact eS_14)⟩, (show mW G S_14 t9.heap by rw [ht9]; exact hW)⟩, hS.F ht9⟩) hS.2.2 dX3_certify_117
            · refine lv_iconst (v := nI 1) hx hb dX3_certify_87 (by decide) ?_
              refine lv_goto (tgt := 92) hx hb dX3_certify_88 (by decide) ?_
              refine lv_istore (lv' := [(6, .int (nI 1)), (5, .int (nI (((12 * i_4) + (3 * n_11)) + n_13))), (0, .ref (gA G 0)), (1, .int (nI i_4)), (2, .int (nI j_8)), (3, .int (nI n_11)), (4, .int (nI n_13))]) hx hb dX3_certify_92 hl (by decide) rfl (fun ls hl => ?_)
              refine lv_aload_n hx hb dX3_certify_94 rfl (lv_at hl 2 rfl) ?_
              refine va_get (D := gD G) (ci := 3) (v := .ref (gA G 14)) (C := RX3) (T := TX3) (N := 22) hx hb hts inX3 hown hK.1 hW 0 mw_0 rfl 16 (by decide) (hts (.fieldLink RX3 58 "MarkedTreesModel" "certificates" "[J") (by decide +kernel)) (fun _ h9 => h9) rfl dX3_certify_95 ?_
              refine lv_iload hx hb dX3_certify_98 (lv_at hl 1 rfl) ?_
              refine lv_dup2_11 hx hb dX3_certify_100 rfl rfl ?_
              refine nv_lald hx hb hK.1 hW 14 1 mw_14 rfl (i := ((12 * i_4) + (3 * n_11)) + n_13) (by omega) (by decide) dX3_certify_101 ?_
              refine lv_lconst (v := 1) hx hb dX3_certify_102 (by decide) ?_
              refine lv_iload_n hx hb dX3_certify_103 rfl (lv_at hl 4 rfl) ?_
              refine lv_lshl (v := 1 <<< ((nI j_8).toInt64 &&& 63)) hx hb dX3_certify_104 rfl ?_
              refine lv_lor hx hb dX3_certify_105 ?_
              refine nv_last hx hb hK.1 hW (wl_D hK.2.1) hS 14 1 mw_14 rfl (i := ((12 * i_4) + (3 * n_11)) + n_13) (by omega) (by decide) dX3_certify_106 (fun H locs hW hS => ?_)
              have hW : mW G (s2 (mT S) 14 (((12 * i_4) + (3 * n_11)) + n_13) (((mT S).2 14 (((12 * i_4) + (3 * n_11)) + n_13)) ||| (1 <<< ((nI j_8).toInt64 &&& 63)))) H := mp_14 hW
              obtain ⟨S_15, eS_15⟩ : ∃ z, z = s2 (mT S) 14 (((12 * i_4) + (3 * n_11)) + n_13) (((mT S).2 14 (((12 * i_4) + (3 * n_11)) + n_13)) ||| (1 <<< ((nI j_8).toInt64 &&& 63))) := ⟨_, rfl⟩
              rw [← eS_15] at hW
              refine lv_iload hx hb dX3_certify_107 (lv_at hl 0 rfl) ?_
              refine lv_if_ne (tgt := 116) hx hb dX3_certify_109 (by decide) (fun c_109 => ?_) (fun c_109 => ?_)
              · refine lv_iconst (v := nI 0) hx hb dX3_certify_116 (by decide) ?_
                exact W.zret (v := nI 0) hx hb hr rfl (fun t9 ht9 _ => ⟨⟨_, S_15, rfl, ⟨fun _ => (by first | (simp only [cn_i_4, cn_j_8, cn_n_11, cn_n_13]; done) | (simp only [cn_i_4, cn_j_8, cn_n_11, cn_n_13]; exact bI_i0 (by rw [(tb_shr1 _ (by omega)).mp c_84]; rfl)) | (exact bI_i0 (by rw [(tb_shr1 _ (by omega)).mp c_84]; rfl))), (by rw [mF_ok (by unfold mcCertify; (try simp only [cn_i_4, cn_j_8, cn_n_11, cn_n_13]); rw [if_pos (isP_nI hi_4), if_pos c_29, if_pos d_38, if_pos d_48])]; (try simp only [cn_i_4, cn_j_8, cn_n_11, cn_n_13]); exact eS_15)⟩, (show mW G S_15 t9.heap by rw [ht9]; exact hW)⟩, hS.F ht9⟩) hS.2.2 dX3_certify_117
              · exact absurd c_109 (by decide)
          · have d_48 : inB w 3 = false := (inM_B w (n := 2) (by decide)).symm.trans c_48
            refine lv_aload_n hx hb dX3_certify_51 rfl (lv_at hl 0 rfl) ?_
            refine lv_iconst (v := nI 1) hx hb dX3_certify_52 (by decide) ?_
            refine va_put (D := gD G) (ci := 3) (v := .int (nI 1)) (ty := .int) (C := RX3) (T := TX3) (N := 22) hx hb hts inX3 tyX3 tyX3_ok nmX3 hown hK.1 hW (wl_D hK.2.1) hS 0 mw_0 rfl 0 (by decide) (hts (.fieldLink RX3 76 "MarkedTreesModel" "thrown" "I") (by decide +kernel)) (fun _ h9 => h9) rfl (by decide +kernel) rfl rfl (Nat.le_of_ble_eq_true rfl) dX3_certify_53 (fun H locs hW _ hS => ?_)
            have hW : mW G (s1 (mT S) 0 0 (nI 1)) H := mp_0_0 hW
            obtain ⟨S_16, eS_16⟩ : ∃ z, z = s1 (mT S) 0 0 (nI 1) := ⟨_, rfl⟩
            rw [← eS_16] at hW
            refine lv_iconst (v := nI 0) hx hb dX3_certify_56 (by decide) ?_
            exact W.zret (v := nI 0) hx hb hr rfl (fun t9 ht9 _ => ⟨⟨_, S_16, rfl, ⟨no0 (k := 1) (by unfold mcCertify; (try simp only [cn_i_4, cn_j_8, cn_n_11]); rw [if_pos (isP_nI hi_4), if_pos c_29, if_pos d_38, if_neg (ne_true_of_eq_false d_48)]) (by decide), (by rw [mF_no (by unfold mcCertify; (try simp only [cn_i_4, cn_j_8, cn_n_11]); rw [if_pos (isP_nI hi_4), if_pos c_29, if_pos d_38, if_neg (ne_true_of_eq_false d_48)]) (by decide)]; exact eS_16)⟩, (show mW G S_16 t9.heap by rw [ht9]; exact hW)⟩, hS.F ht9⟩) hS.2.2 dX3_certify_57

set_option maxHeartbeats 4000000 in
set_option maxRecDepth 100000 in
theorem k_X3_trust (l : Launch) (G : GT) (S : SS) (sz : Nat) (x y : Int32) (db : Bool) : Met l yX3_trust wsX3_trust ({ frames := 1, cells := 0, slots := 0, locals := 22 } : Room) (va_Pc [.ref (gA G 0), .int x, .int y, .int (bI db)] (fun U => U.heap.size = sz ∧ mP G S U)) (va_Qi (fun r S' => ((cdTrust x y) = 0 → r = bI (ti ((mT S).1 15 (cn x)) (cn y))) ∧ S' = mF (mT S) (cdTrust x y) (mdTrust (mT S) (cn x) (cn y) db)) (mB G) (gF G sz)) 0 0 (gF G sz) := by
  refine Met.ofW (cc := cX3_trust) (maxL := 6) (ret := (some .boolean)) (by decide) rfl ?_
  intro p e s m args below meth c s₁ B hml hv
  obtain ⟨rfl, hsz, hW, hK⟩ := hv
  subst hsz
  have hx := B.exec
  have hb := B.bytes
  have hr := B.returns
  have hts := atoms_spec (ws := wsX3_trust) B.pre
  have hown : s.vm.findClass RX3 = some m.cls := findClass_of_methodNamed B.named
  have hlocks := B.notSynchronized
  have hS : va_S (gF G s.heap.size) s.heap s.heap [] := va_S.rf
  have inX3 : ∀ w ∈ u_ws RX3 TX3 22, w ∈ wsX3_trust := by decide +kernel
  have hl := lv_entry ([.ref (gA G 0), .int x, .int y, .int (bI db)]) (n := 6) (Nat.le_of_ble_eq_true rfl)
  rw [lg_entry_eq]
  generalize (lg_sl ([.ref (gA G 0), .int x, .int y, .int (bI db)]) ++ List.replicate (6 - (lg_sl ([.ref (gA G 0), .int x, .int y, .int (bI db)])).length) Slot.unset).toArray = ls at hl ⊢
  have hl : lv_has ls 6 [(0, .ref (gA G 0)), (1, .int x), (2, .int y), (3, .int (bI db))] := hl
  refine lv_aload_n hx hb dX3_trust_0 rfl (lv_at hl 0 rfl) ?_
  refine lv_iconst (v := nI 0) hx hb dX3_trust_1 (by decide) ?_
  refine va_put (D := gD G) (ci := 3) (v := .int (nI 0)) (ty := .int) (C := RX3) (T := TX3) (N := 22) hx hb hts inX3 tyX3 tyX3_ok nmX3 hown hK.1 hW (wl_D hK.2.1) hS 0 mw_0 rfl 0 (by decide) (hts (.fieldLink RX3 76 "MarkedTreesModel" "thrown" "I") (by decide +kernel)) (fun _ h9 => h9) rfl (by decide +kernel) rfl rfl (Nat.le_of_ble_eq_true rfl) dX3_trust_2 (fun H locs hW _ hS => ?_)
  have hW : mW G (s1 S 0 0 (nI 0)) H := mp_0_0 hW
  obtain ⟨S_1, eS_1⟩ : ∃ z, z = s1 S 0 0 (nI 0) := ⟨_, rfl⟩
  rw [← eS_1] at hW
  have hT : S_1 = mT S := eS_1
  subst hT
  refine lv_iload_n hx hb dX3_trust_5 rfl (lv_at hl 1 rfl) ?_
  refine pv_i (va_runS (As := [.int x]) (rest := []) ⟨hx, hb, hml, hown, hts⟩ (k_X3_isPeer l x) (va_cwS 1 hts gX3_trust_X3_isPeer rfl rfl rfl (by decide +kernel) ⟨Nat.le_of_ble_eq_true rfl, Nat.le_of_ble_eq_true rfl⟩) ⟨(fun _ _ _ _ h => h), fun U _ _ => ⟨rfl, trivial⟩⟩ rfl rfl hl.1 rfl (lv_room (Nat.le_of_ble_eq_true rfl)) dX3_trust_6 ⟨Nat.le_of_ble_eq_true rfl, Nat.le_of_ble_eq_true rfl⟩) (fun r_2 hr_2 => ?_)
  have hr_2 : r_2 = bI (isP x) := hr_2
  subst hr_2
  refine bv_if_eq (b := isP x) (tgt := 21) hx hb dX3_trust_9 (by decide) (fun c_9 => ?_) (fun c_9 => ?_)
  · refine lv_aload_n hx hb dX3_trust_21 rfl (lv_at hl 0 rfl) ?_
    refine lv_iconst (v := nI 1) hx hb dX3_trust_22 (by decide) ?_
    refine va_put (D := gD G) (ci := 3) (v := .int (nI 1)) (ty := .int) (C := RX3) (T := TX3) (N := 22) hx hb hts inX3 tyX3 tyX3_ok nmX3 hown hK.1 hW (wl_D hK.2.1) hS 0 mw_0 rfl 0 (by decide) (hts (.fieldLink RX3 76 "MarkedTreesModel" "thrown" "I") (by decide +kernel)) (fun _ h9 => h9) rfl (by decide +kernel) rfl rfl (Nat.le_of_ble_eq_true rfl) dX3_trust_23 (fun H locs hW _ hS => ?_)
    have hW : mW G (s1 (mT S) 0 0 (nI 1)) H := mp_0_0 hW
    obtain ⟨S_3, eS_3⟩ : ∃ z, z = s1 (mT S) 0 0 (nI 1) := ⟨_, rfl⟩
    rw [← eS_3] at hW
    refine lv_iconst (v := nI 0) hx hb dX3_trust_26 (by decide) ?_
    exact W.zret (v := nI 0) hx hb hr rfl (fun t9 ht9 _ => ⟨⟨_, S_3, rfl, ⟨no0 (k := 1) (by unfold cdTrust; rw [if_neg (ne_true_of_eq_false c_9)]) (by decide), (by rw [mF_no (by unfold cdTrust; rw [if_neg (ne_true_of_eq_false c_9)]) (by decide)]; exact eS_3)⟩, (show mW G S_3 t9.heap by rw [ht9]; exact hW)⟩, hS.F ht9⟩) hS.2.2 dX3_trust_27
  · obtain ⟨i_4, hi_4, rfl⟩ := isP_iff.mp c_9
    have cn_i_4 : cn (nI i_4) = i_4 := cn_nI (by omega)
    refine lv_iload_n hx hb dX3_trust_12 rfl (lv_at hl 2 rfl) ?_
    refine lv_iconst (v := nI 0) hx hb dX3_trust_13 (by decide) ?_
    refine lv_iconst (v := nI 3) hx hb dX3_trust_14 (by decide) ?_
    refine pv_i (va_runS (As := [.int y, .int (nI 0), .int (nI 3)]) (rest := []) ⟨hx, hb, hml, hown, hts⟩ (k_X3_in l y (nI 0) (nI 3)) (va_cwS 3 hts gX3_trust_X3_in rfl rfl rfl (by decide +kernel) ⟨Nat.le_of_ble_eq_true rfl, Nat.le_of_ble_eq_true rfl⟩) ⟨(fun _ _ _ _ h => h), fun U _ _ => ⟨rfl, trivial⟩⟩ rfl rfl hl.1 rfl (lv_room (Nat.le_of_ble_eq_true rfl)) dX3_trust_15 ⟨Nat.le_of_ble_eq_true rfl, Nat.le_of_ble_eq_true rfl⟩) (fun r_5 hr_5 => ?_)
    have hr_5 : r_5 = bI (inM y (nI 0) (nI 3)) := hr_5
    subst hr_5
    refine bv_if_ne (b := inM y (nI 0) (nI 3)) (tgt := 28) hx hb dX3_trust_18 (by decide) (fun c_18 => ?_) (fun c_18 => ?_)
    · have d_18 : inB y 4 = true := (inM_B y (n := 3) (by decide)).symm.trans c_18
      obtain ⟨n_6, hn_6, rfl⟩ := (inB_iff (by omega)).mp d_18
      have cn_n_6 : cn (nI n_6) = n_6 := cn_nI (by omega)
      refine lv_aload_n hx hb dX3_trust_28 rfl (lv_at hl 0 rfl) ?_
      refine va_get (D := gD G) (ci := 3) (v := .ref (gA G 15)) (C := RX3) (T := TX3) (N := 22) hx hb hts inX3 hown hK.1 hW 0 mw_0 rfl 17 (by decide) (hts (.fieldLink RX3 61 "MarkedTreesModel" "trusted" "[I") (by decide +kernel)) (fun _ h9 => h9) rfl dX3_trust_29 ?_
      refine lv_iload_n hx hb dX3_trust_32 rfl (lv_at hl 1 rfl) ?_
      refine nv_iald hx hb hK.1 hW 15 0 mw_15 rfl (i := i_4) (by omega) (by decide) dX3_trust_33 ?_
      refine lv_iload_n hx hb dX3_trust_34 rfl (lv_at hl 2 rfl) ?_
      refine lv_ishr hx hb dX3_trust_35 ?_
      refine lv_iconst (v := nI 1) hx hb dX3_trust_36 (by decide) ?_
      refine lv_iand hx hb dX3_trust_37 ?_
      refine lv_iconst (v := nI 1) hx hb dX3_trust_38 (by decide) ?_
      refine lv_icmp_ne (tgt := 46) hx hb dX3_trust_39 (by decide) (fun c_39 => ?_) (fun c_39 => ?_)
      · refine lv_iconst (v := nI 0) hx hb dX3_trust_46 (by decide) ?_
        refine lv_istore (lv' := [(4, .int (nI 0)), (0, .ref (gA G 0)), (1, .int (nI i_4)), (2, .int (nI n_6)), (3, .int (bI db))]) hx hb dX3_trust_47 hl (by decide) rfl (fun ls hl => ?_)
        refine lv_iconst (v := nI 1) hx hb dX3_trust_49 (by decide) ?_
        refine lv_iload_n hx hb dX3_trust_50 rfl (lv_at hl 3 rfl) ?_
        refine lv_ishl hx hb dX3_trust_51 ?_
        refine lv_istore (lv' := [(5, .int ((nI 1) <<< ((nI n_6) &&& 31))), (4, .int (nI 0)), (0, .ref (gA G 0)), (1, .int (nI i_4)), (2, .int (nI n_6)), (3, .int (bI db))]) hx hb dX3_trust_52 hl (by decide) rfl (fun ls hl => ?_)
        refine lv_aload_n hx hb dX3_trust_54 rfl (lv_at hl 2 rfl) ?_
        refine va_get (D := gD G) (ci := 3) (v := .ref (gA G 15)) (C := RX3) (T := TX3) (N := 22) hx hb hts inX3 hown hK.1 hW 0 mw_0 rfl 17 (by decide) (hts (.fieldLink RX3 61 "MarkedTreesModel" "trusted" "[I") (by decide +kernel)) (fun _ h9 => h9) rfl dX3_trust_55 ?_
        refine lv_iload_n hx hb dX3_trust_58 rfl (lv_at hl 3 rfl) ?_
        refine lv_iload_n hx hb dX3_trust_59 rfl (lv_at hl 5 rfl) ?_
        refine bv_if_eq (b := db) (tgt := 75) hx hb dX3_trust_60 (by decide) (fun c_60 => ?_) (fun c_60 => ?_)
        · refine lv_aload_n hx hb dX3_trust_75 rfl (lv_at hl 2 rfl) ?_
          refine va_get (D := gD G) (ci := 3) (v := .ref (gA G 15)) (C := RX3) (T := TX3) (N := 22) hx hb hts inX3 hown hK.1 hW 0 mw_0 rfl 17 (by decide) (hts (.fieldLink RX3 61 "MarkedTreesModel" "trusted" "[I") (by decide +kernel)) (fun _ h9 => h9) rfl dX3_trust_76 ?_
          refine lv_iload_n hx hb dX3_trust_79 rfl (lv_at hl 3 rfl) ?_
          refine nv_iald hx hb hK.1 hW 15 0 mw_15 rfl (i := i_4) (by omega) (by decide) dX3_trust_80 ?_
          refine lv_iload hx hb dX3_trust_81 (lv_at hl 0 rfl) ?_
          refine lv_iconst (v := (-1)) hx hb dX3_trust_83 (by decide) ?_
          refine lv_ixor hx hb dX3_trust_84 ?_
          refine lv_iand hx hb dX3_trust_85 ?_
          refine nv_iast hx hb hK.1 hW (wl_D hK.2.1) hS 15 0 mw_15 rfl (i := i_4) (by omega) (by decide) dX3_trust_86 (fun H locs hW hS => ?_)
          have hW : mW G (s1 (mT S) 15 i_4 (((mT S).1 15 i_4) &&& (((nI 1) <<< ((nI n_6) &&& 31)) ^^^ (-1)))) H := mp_15 hW
          obtain ⟨S_7, eS_7⟩ : ∃ z, z = s1 (mT S) 15 i_4 (((mT S).1 15 i_4) &&& (((nI 1) <<< ((nI n_6) &&& 31)) ^^^ (-1))) := ⟨_, rfl⟩
          rw [← eS_7] at hW
          refine lv_iload hx hb dX3_trust_87 (lv_at hl 1 rfl) ?_
          exact W.zret (v := nI 0) hx hb hr rfl (fun t9 ht9 _ => ⟨⟨_, S_7, rfl, ⟨fun _ => (by first | (simp only [cn_i_4, cn_n_6]; done) | (simp only [cn_i_4, cn_n_6]; exact bI_i0 (by cases h9 : ti _ _; rfl; exact absurd ((ti_shr _ (by omega)).mpr h9) c_39)) | (exact bI_i0 (by cases h9 : ti _ _; rfl; exact absurd ((ti_shr _ (by omega)).mpr h9) c_39))), (by rw [mF_ok (by unfold cdTrust; (try simp only [cn_i_4, cn_n_6]); rw [if_pos (isP_nI hi_4), if_pos d_18])]; (try simp only [cn_i_4, cn_n_6]); rw [mdTrust, if_neg (ne_true_of_eq_false c_60)]; exact eS_7)⟩, (show mW G S_7 t9.heap by rw [ht9]; exact hW)⟩, hS.F ht9⟩) hS.2.2 dX3_trust_89
        · refine lv_aload_n hx hb dX3_trust_63 rfl (lv_at hl 2 rfl) ?_
          refine va_get (D := gD G) (ci := 3) (v := .ref (gA G 15)) (C := RX3) (T := TX3) (N := 22) hx hb hts inX3 hown hK.1 hW 0 mw_0 rfl 17 (by decide) (hts (.fieldLink RX3 61 "MarkedTreesModel" "trusted" "[I") (by decide +kernel)) (fun _ h9 => h9) rfl dX3_trust_64 ?_
          refine lv_iload_n hx hb dX3_trust_67 rfl (lv_at hl 3 rfl) ?_
          refine nv_iald hx hb hK.1 hW 15 0 mw_15 rfl (i := i_4) (by omega) (by decide) dX3_trust_68 ?_
          refine lv_iload hx hb dX3_trust_69 (lv_at hl 0 rfl) ?_
          refine lv_ior hx hb dX3_trust_71 ?_
          refine lv_goto (tgt := 86) hx hb dX3_trust_72 (by decide) ?_
          refine nv_iast hx hb hK.1 hW (wl_D hK.2.1) hS 15 0 mw_15 rfl (i := i_4) (by omega) (by decide) dX3_trust_86 (fun H locs hW hS => ?_)
          have hW : mW G (s1 (mT S) 15 i_4 (((mT S).1 15 i_4) ||| ((nI 1) <<< ((nI n_6) &&& 31)))) H := mp_15 hW
          obtain ⟨S_8, eS_8⟩ : ∃ z, z = s1 (mT S) 15 i_4 (((mT S).1 15 i_4) ||| ((nI 1) <<< ((nI n_6) &&& 31))) := ⟨_, rfl⟩
          rw [← eS_8] at hW
          refine lv_iload hx hb dX3_trust_87 (lv_at hl 1 rfl) ?_
          exact W.zret (v := nI 0) hx hb hr rfl (fun t9 ht9 _ => ⟨⟨_, S_8, rfl, ⟨fun _ => (by first | (simp only [cn_i_4, cn_n_6]; done) | (simp only [cn_i_4, cn_n_6]; exact bI_i0 (by cases h9 : ti _ _; rfl; exact absurd ((ti_shr _ (by omega)).mpr h9) c_39)) | (exact bI_i0 (by cases h9 : ti _ _; rfl; exact absurd ((ti_shr _ (by omega)).mpr h9) c_39))), (by rw [mF_ok (by unfold cdTrust; (try simp only [cn_i_4, cn_n_6]); rw [if_pos (isP_nI hi_4), if_pos d_18])]; (try simp only [cn_i_4, cn_n_6]); rw [mdTrust, if_pos c_60]; exact eS_8)⟩, (show mW G S_8 t9.heap by rw [ht9]; exact hW)⟩, hS.F ht9⟩) hS.2.2 dX3_trust_89
      · refine lv_iconst (v := nI 1) hx hb dX3_trust_42 (by decide) ?_
        refine lv_goto (tgt := 47) hx hb dX3_trust_43 (by decide) ?_
        refine lv_istore (lv' := [(4, .int (nI 1)), (0, .ref (gA G 0)), (1, .int (nI i_4)), (2, .int (nI n_6)), (3, .int (bI db))]) hx hb dX3_trust_47 hl (by decide) rfl (fun ls hl => ?_)
        refine lv_iconst (v := nI 1) hx hb dX3_trust_49 (by decide) ?_
        refine lv_iload_n hx hb dX3_trust_50 rfl (lv_at hl 3 rfl) ?_
        refine lv_ishl hx hb dX3_trust_51 ?_
        refine lv_istore (lv' := [(5, .int ((nI 1) <<< ((nI n_6) &&& 31))), (4, .int (nI 1)), (0, .ref (gA G 0)), (1, .int (nI i_4)), (2, .int (nI n_6)), (3, .int (bI db))]) hx hb dX3_trust_52 hl (by decide) rfl (fun ls hl => ?_)
        refine lv_aload_n hx hb dX3_trust_54 rfl (lv_at hl 2 rfl) ?_
        refine va_get (D := gD G) (ci := 3) (v := .ref (gA G 15)) (C := RX3) (T := TX3) (N := 22) hx hb hts inX3 hown hK.1 hW 0 mw_0 rfl 17 (by decide) (hts (.fieldLink RX3 61 "MarkedTreesModel" "trusted" "[I") (by decide +kernel)) (fun _ h9 => h9) rfl dX3_trust_55 ?_
        refine lv_iload_n hx hb dX3_trust_58 rfl (lv_at hl 3 rfl) ?_
        refine lv_iload_n hx hb dX3_trust_59 rfl (lv_at hl 5 rfl) ?_
        refine bv_if_eq (b := db) (tgt := 75) hx hb dX3_trust_60 (by decide) (fun c_60 => ?_) (fun c_60 => ?_)
        · refine lv_aload_n hx hb dX3_trust_75 rfl (lv_at hl 2 rfl) ?_
          refine va_get (D := gD G) (ci := 3) (v := .ref (gA G 15)) (C := RX3) (T := TX3) (N := 22) hx hb hts inX3 hown hK.1 hW 0 mw_0 rfl 17 (by decide) (hts (.fieldLink RX3 61 "MarkedTreesModel" "trusted" "[I") (by decide +kernel)) (fun _ h9 => h9) rfl dX3_trust_76 ?_
          refine lv_iload_n hx hb dX3_trust_79 rfl (lv_at hl 3 rfl) ?_
          refine nv_iald hx hb hK.1 hW 15 0 mw_15 rfl (i := i_4) (by omega) (by decide) dX3_trust_80 ?_
          refine lv_iload hx hb dX3_trust_81 (lv_at hl 0 rfl) ?_
          refine lv_iconst (v := (-1)) hx hb dX3_trust_83 (by decide) ?_
          refine lv_ixor hx hb dX3_trust_84 ?_
          refine lv_iand hx hb dX3_trust_85 ?_
          refine nv_iast hx hb hK.1 hW (wl_D hK.2.1) hS 15 0 mw_15 rfl (i := i_4) (by omega) (by decide) dX3_trust_86 (fun H locs hW hS => ?_)
          have hW : mW G (s1 (mT S) 15 i_4 (((mT S).1 15 i_4) &&& (((nI 1) <<< ((nI n_6) &&& 31)) ^^^ (-1)))) H := mp_15 hW
          obtain ⟨S_9, eS_9⟩ : ∃ z, z = s1 (mT S) 15 i_4 (((mT S).1 15 i_4) &&& (((nI 1) <<< ((nI n_6) &&& 31)) ^^^ (-1))) := ⟨_, rfl⟩
          rw [← eS_9] at hW
          refine lv_iload hx hb dX3_trust_87 (lv_at hl 1 rfl) ?_
          exact W.zret (v := nI 1) hx hb hr rfl (fun t9 ht9 _ => ⟨⟨_, S_9, rfl, ⟨fun _ => (by first | (simp only [cn_i_4, cn_n_6]; done) | (simp only [cn_i_4, cn_n_6]; exact bI_i1 ((ti_shr _ (by omega)).mp c_39)) | (exact bI_i1 ((ti_shr _ (by omega)).mp c_39))), (by rw [mF_ok (by unfold cdTrust; (try simp only [cn_i_4, cn_n_6]); rw [if_pos (isP_nI hi_4), if_pos d_18])]; (try simp only [cn_i_4, cn_n_6]); rw [mdTrust, if_neg (ne_true_of_eq_false c_60)]; exact eS_9)⟩, (show mW G S_9 t9.heap by rw [ht9]; exact hW)⟩, hS.F ht9⟩) hS.2.2 dX3_trust_89
        · refine lv_aload_n hx hb dX3_trust_63 rfl (lv_at hl 2 rfl) ?_
          refine va_get (D := gD G) (ci := 3) (v := .ref (gA G 15)) (C := RX3) (T := TX3) (N := 22) hx hb hts inX3 hown hK.1 hW 0 mw_0 rfl 17 (by decide) (hts (.fieldLink RX3 61 "MarkedTreesModel" "trusted" "[I") (by decide +kernel)) (fun _ h9 => h9) rfl dX3_trust_64 ?_
          refine lv_iload_n hx hb dX3_trust_67 rfl (lv_at hl 3 rfl) ?_
          refine nv_iald hx hb hK.1 hW 15 0 mw_15 rfl (i := i_4) (by omega) (by decide) dX3_trust_68 ?_
          refine lv_iload hx hb dX3_trust_69 (lv_at hl 0 rfl) ?_
          refine lv_ior hx hb dX3_trust_71 ?_
          refine lv_goto (tgt := 86) hx hb dX3_trust_72 (by decide) ?_
          refine nv_iast hx hb hK.1 hW (wl_D hK.2.1) hS 15 0 mw_15 rfl (i := i_4) (by omega) (by decide) dX3_trust_86 (fun H locs hW hS => ?_)
          have hW : mW G (s1 (mT S) 15 i_4 (((mT S).1 15 i_4) ||| ((nI 1) <<< ((nI n_6) &&& 31)))) H := mp_15 hW
          obtain ⟨S_10, eS_10⟩ : ∃ z, z = s1 (mT S) 15 i_4 (((mT S).1 15 i_4) ||| ((nI 1) <<< ((nI n_6) &&& 31))) := ⟨_, rfl⟩
          rw [← eS_10] at hW
          refine lv_iload hx hb dX3_trust_87 (lv_at hl 1 rfl) ?_
          exact W.zret (v := nI 1) hx hb hr rfl (fun t9 ht9 _ => ⟨⟨_, S_10, rfl, ⟨fun _ => (by first | (simp only [cn_i_4, cn_n_6]; done) | (simp only [cn_i_4, cn_n_6]; exact bI_i1 ((ti_shr _ (by omega)).mp c_39)) | (exact bI_i1 ((ti_shr _ (by omega)).mp c_39))), (by rw [mF_ok (by unfold cdTrust; (try simp only [cn_i_4, cn_n_6]); rw [if_pos (isP_nI hi_4), if_pos d_18])]; (try simp only [cn_i_4, cn_n_6]); rw [mdTrust, if_pos c_60]; exact eS_10)⟩, (show mW G S_10 t9.heap by rw [ht9]; exact hW)⟩, hS.F ht9⟩) hS.2.2 dX3_trust_89
    · have d_18 : inB y 4 = false := (inM_B y (n := 3) (by decide)).symm.trans c_18
      refine lv_aload_n hx hb dX3_trust_21 rfl (lv_at hl 0 rfl) ?_
      refine lv_iconst (v := nI 1) hx hb dX3_trust_22 (by decide) ?_
      refine va_put (D := gD G) (ci := 3) (v := .int (nI 1)) (ty := .int) (C := RX3) (T := TX3) (N := 22) hx hb hts inX3 tyX3 tyX3_ok nmX3 hown hK.1 hW (wl_D hK.2.1) hS 0 mw_0 rfl 0 (by decide) (hts (.fieldLink RX3 76 "MarkedTreesModel" "thrown" "I") (by decide +kernel)) (fun _ h9 => h9) rfl (by decide +kernel) rfl rfl (Nat.le_of_ble_eq_true rfl) dX3_trust_23 (fun H locs hW _ hS => ?_)
      have hW : mW G (s1 (mT S) 0 0 (nI 1)) H := mp_0_0 hW
      obtain ⟨S_11, eS_11⟩ : ∃ z, z = s1 (mT S) 0 0 (nI 1) := ⟨_, rfl⟩
      rw [← eS_11] at hW
      refine lv_iconst (v := nI 0) hx hb dX3_trust_26 (by decide) ?_
      exact W.zret (v := nI 0) hx hb hr rfl (fun t9 ht9 _ => ⟨⟨_, S_11, rfl, ⟨no0 (k := 1) (by unfold cdTrust; (try simp only [cn_i_4]); rw [if_pos (isP_nI hi_4), if_neg (ne_true_of_eq_false d_18)]) (by decide), (by rw [mF_no (by unfold cdTrust; (try simp only [cn_i_4]); rw [if_pos (isP_nI hi_4), if_neg (ne_true_of_eq_false d_18)]) (by decide)]; exact eS_11)⟩, (show mW G S_11 t9.heap by rw [ht9]; exact hW)⟩, hS.F ht9⟩) hS.2.2 dX3_trust_27

set_option maxHeartbeats 4000000 in
set_option maxRecDepth 100000 in
theorem k_X3_heads (l : Launch) (G : GT) (S : SS) (sz : Nat) (x y : Int32) : Met l yX3_heads wsX3_heads ({ frames := 1, cells := 0, slots := 0, locals := 25 } : Room) (va_Pc [.ref (gA G 0), .int x, .int y] (fun U => U.heap.size = sz ∧ mP G S U)) (va_Ql (fun r S' => ((cdHeads x y) = 0 → r = mltG (mT S) (mmG (mT S) (cn x) (cn y) 4 0 0) 40 0 (mmG (mT S) (cn x) (cn y) 4 0 0)) ∧ S' = mF (mT S) (cdHeads x y) (mT S)) (mB G) (gF G sz)) 0 0 (gF G sz) := by
  refine Met.ofW (cc := cX3_heads) (maxL := 5) (ret := (some .long)) (by decide) rfl ?_
  intro p e s m args below meth c s₁ B hml hv
  obtain ⟨rfl, hsz, hW, hK⟩ := hv
  subst hsz
  have hx := B.exec
  have hb := B.bytes
  have hr := B.returns
  have hts := atoms_spec (ws := wsX3_heads) B.pre
  have hown : s.vm.findClass RX3 = some m.cls := findClass_of_methodNamed B.named
  have hlocks := B.notSynchronized
  have hS : va_S (gF G s.heap.size) s.heap s.heap [] := va_S.rf
  have inX3 : ∀ w ∈ u_ws RX3 TX3 22, w ∈ wsX3_heads := by decide +kernel
  have hl := lv_entry ([.ref (gA G 0), .int x, .int y]) (n := 5) (Nat.le_of_ble_eq_true rfl)
  rw [lg_entry_eq]
  generalize (lg_sl ([.ref (gA G 0), .int x, .int y]) ++ List.replicate (5 - (lg_sl ([.ref (gA G 0), .int x, .int y])).length) Slot.unset).toArray = ls at hl ⊢
  have hl : lv_has ls 5 [(0, .ref (gA G 0)), (1, .int x), (2, .int y)] := hl
  refine lv_aload_n hx hb dX3_heads_0 rfl (lv_at hl 0 rfl) ?_
  refine lv_iconst (v := nI 0) hx hb dX3_heads_1 (by decide) ?_
  refine va_put (D := gD G) (ci := 3) (v := .int (nI 0)) (ty := .int) (C := RX3) (T := TX3) (N := 22) hx hb hts inX3 tyX3 tyX3_ok nmX3 hown hK.1 hW (wl_D hK.2.1) hS 0 mw_0 rfl 0 (by decide) (hts (.fieldLink RX3 76 "MarkedTreesModel" "thrown" "I") (by decide +kernel)) (fun _ h9 => h9) rfl (by decide +kernel) rfl rfl (Nat.le_of_ble_eq_true rfl) dX3_heads_2 (fun H locs hW _ hS => ?_)
  have hW : mW G (s1 S 0 0 (nI 0)) H := mp_0_0 hW
  obtain ⟨S_1, eS_1⟩ : ∃ z, z = s1 S 0 0 (nI 0) := ⟨_, rfl⟩
  rw [← eS_1] at hW
  have hT : S_1 = mT S := eS_1
  subst hT
  refine lv_iload_n hx hb dX3_heads_5 rfl (lv_at hl 1 rfl) ?_
  refine pv_i (va_runS (As := [.int x]) (rest := []) ⟨hx, hb, hml, hown, hts⟩ (k_X3_isPeer l x) (va_cwS 1 hts gX3_heads_X3_isPeer rfl rfl rfl (by decide +kernel) ⟨Nat.le_of_ble_eq_true rfl, Nat.le_of_ble_eq_true rfl⟩) ⟨(fun _ _ _ _ h => h), fun U _ _ => ⟨rfl, trivial⟩⟩ rfl rfl hl.1 rfl (lv_room (Nat.le_of_ble_eq_true rfl)) dX3_heads_6 ⟨Nat.le_of_ble_eq_true rfl, Nat.le_of_ble_eq_true rfl⟩) (fun r_2 hr_2 => ?_)
  have hr_2 : r_2 = bI (isP x) := hr_2
  subst hr_2
  refine bv_if_eq (b := isP x) (tgt := 21) hx hb dX3_heads_9 (by decide) (fun c_9 => ?_) (fun c_9 => ?_)
  · refine lv_aload_n hx hb dX3_heads_21 rfl (lv_at hl 0 rfl) ?_
    refine lv_iconst (v := nI 1) hx hb dX3_heads_22 (by decide) ?_
    refine ev_i (va_runV (As := [.int (nI 1)]) (rest := []) ⟨hx, hb, hml, hown, hts⟩ (k_X3_fail l G (mT S) H.size (nI 1)) (cwV 1 hts gX3_heads_X3_fail rfl rfl rfl (by decide +kernel) ⟨Nat.le_of_ble_eq_true rfl, Nat.le_of_ble_eq_true rfl⟩) ⟨mQ_blind, m_recv hW hK, mQ_at hW hK hS⟩ rfl rfl hl.1 rfl (lv_room (Nat.le_of_ble_eq_true rfl)) dX3_heads_23 ⟨Nat.le_of_ble_eq_true rfl, Nat.le_of_ble_eq_true rfl⟩) hS (fun r_4 S_3 t9 H locs ht9 hS_3 hW hS => ?_)
    have hW : mW G S_3 H := ht9 ▸ hW
    obtain ⟨rfl, eS_3⟩ := hS_3
    refine lv_i2l (v := (nI 0).toInt64) hx hb dX3_heads_26 rfl ?_
    exact W.lret (v := (nI 0).toInt64) hx hb hr (fun t9 ht9 _ => ⟨⟨_, S_3, rfl, ⟨no0 (k := 1) (by unfold cdHeads; rw [if_neg (ne_true_of_eq_false c_9)]) (by decide), (by rw [mF_no (by unfold cdHeads; rw [if_neg (ne_true_of_eq_false c_9)]) (by decide)]; exact eS_3)⟩, (show mW G S_3 t9.heap by rw [ht9]; exact hW)⟩, hS.F ht9⟩) hS.2.2 dX3_heads_27
  · obtain ⟨i_5, hi_5, rfl⟩ := isP_iff.mp c_9
    have cn_i_5 : cn (nI i_5) = i_5 := cn_nI (by omega)
    refine lv_iload_n hx hb dX3_heads_12 rfl (lv_at hl 2 rfl) ?_
    refine lv_iconst (v := nI 0) hx hb dX3_heads_13 (by decide) ?_
    refine lv_iconst (v := nI 2) hx hb dX3_heads_14 (by decide) ?_
    refine pv_i (va_runS (As := [.int y, .int (nI 0), .int (nI 2)]) (rest := []) ⟨hx, hb, hml, hown, hts⟩ (k_X3_in l y (nI 0) (nI 2)) (va_cwS 3 hts gX3_heads_X3_in rfl rfl rfl (by decide +kernel) ⟨Nat.le_of_ble_eq_true rfl, Nat.le_of_ble_eq_true rfl⟩) ⟨(fun _ _ _ _ h => h), fun U _ _ => ⟨rfl, trivial⟩⟩ rfl rfl hl.1 rfl (lv_room (Nat.le_of_ble_eq_true rfl)) dX3_heads_15 ⟨Nat.le_of_ble_eq_true rfl, Nat.le_of_ble_eq_true rfl⟩) (fun r_6 hr_6 => ?_)
    have hr_6 : r_6 = bI (inM y (nI 0) (nI 2)) := hr_6
    subst hr_6
    refine bv_if_ne (b := inM y (nI 0) (nI 2)) (tgt := 28) hx hb dX3_heads_18 (by decide) (fun c_18 => ?_) (fun c_18 => ?_)
    · have d_18 : inB y 3 = true := (inM_B y (n := 2) (by decide)).symm.trans c_18
      obtain ⟨n_7, hn_7, rfl⟩ := (inB_iff (by omega)).mp d_18
      have cn_n_7 : cn (nI n_7) = n_7 := cn_nI (by omega)
      refine lv_aload_n hx hb dX3_heads_28 rfl (lv_at hl 0 rfl) ?_
      refine lv_iload_n hx hb dX3_heads_29 rfl (lv_at hl 1 rfl) ?_
      refine lv_iload_n hx hb dX3_heads_30 rfl (lv_at hl 2 rfl) ?_
      refine pv_l (va_runV (As := [.int (nI i_5), .int (nI n_7)]) (rest := []) ⟨hx, hb, hml, hown, hts⟩ (k_X3_members l G (mT S) (i := i_5) (by omega) (b := n_7) (by omega)) (cwV 2 hts gX3_heads_X3_members rfl rfl rfl (by decide +kernel) ⟨Nat.le_of_ble_eq_true rfl, Nat.le_of_ble_eq_true rfl⟩) ⟨mP_blind, m_recv hW hK, mP_at hW hK hS⟩ rfl rfl hl.1 rfl (lv_room (Nat.le_of_ble_eq_true rfl)) dX3_heads_31 ⟨Nat.le_of_ble_eq_true rfl, Nat.le_of_ble_eq_true rfl⟩) (fun r_8 hr_8 => ?_)
      have hr_8 : r_8 = mmG (mT S) i_5 n_7 4 0 0 := hr_8
      subst hr_8
      refine lv_lstore_n (lv' := [(3, .long (mmG (mT S) i_5 n_7 4 0 0)), (0, .ref (gA G 0)), (1, .int (nI i_5)), (2, .int (nI n_7))]) hx hb dX3_heads_34 rfl hl (by decide) rfl (fun ls hl => ?_)
      refine lv_aload_n hx hb dX3_heads_35 rfl (lv_at hl 1 rfl) ?_
      refine lv_lload_n hx hb dX3_heads_36 rfl (lv_at hl 0 rfl) ?_
      refine pv_l (va_runV (As := [.long (mmG (mT S) i_5 n_7 4 0 0)]) (rest := []) ⟨hx, hb, hml, hown, hts⟩ (k_X3_latest l G (mT S) (mmG (mT S) i_5 n_7 4 0 0)) (cwV 1 hts gX3_heads_X3_latest rfl rfl rfl (by decide +kernel) ⟨Nat.le_of_ble_eq_true rfl, Nat.le_of_ble_eq_true rfl⟩) ⟨mP_blind, m_recv hW hK, mP_at hW hK hS⟩ rfl rfl hl.1 rfl (lv_room (Nat.le_of_ble_eq_true rfl)) dX3_heads_37 ⟨Nat.le_of_ble_eq_true rfl, Nat.le_of_ble_eq_true rfl⟩) (fun r_9 hr_9 => ?_)
      have hr_9 : r_9 = mltG (mT S) (mmG (mT S) i_5 n_7 4 0 0) 40 0 (mmG (mT S) i_5 n_7 4 0 0) := hr_9
      subst hr_9
      exact W.lret (v := mltG (mT S) (mmG (mT S) i_5 n_7 4 0 0) 40 0 (mmG (mT S) i_5 n_7 4 0 0)) hx hb hr (fun t9 ht9 _ => ⟨⟨_, (mT S), rfl, ⟨fun _ => (by first | (simp only [cn_i_5, cn_n_7]; done) | (simp only [cn_i_5, cn_n_7]; rfl) | (rfl)), (by rw [mF_ok (by unfold cdHeads; (try simp only [cn_i_5, cn_n_7]); rw [if_pos (isP_nI hi_5), if_pos d_18])])⟩, (show mW G (mT S) t9.heap by rw [ht9]; exact hW)⟩, hS.F ht9⟩) hS.2.2 dX3_heads_40
    · have d_18 : inB y 3 = false := (inM_B y (n := 2) (by decide)).symm.trans c_18
      refine lv_aload_n hx hb dX3_heads_21 rfl (lv_at hl 0 rfl) ?_
      refine lv_iconst (v := nI 1) hx hb dX3_heads_22 (by decide) ?_
      refine ev_i (va_runV (As := [.int (nI 1)]) (rest := []) ⟨hx, hb, hml, hown, hts⟩ (k_X3_fail l G (mT S) H.size (nI 1)) (cwV 1 hts gX3_heads_X3_fail rfl rfl rfl (by decide +kernel) ⟨Nat.le_of_ble_eq_true rfl, Nat.le_of_ble_eq_true rfl⟩) ⟨mQ_blind, m_recv hW hK, mQ_at hW hK hS⟩ rfl rfl hl.1 rfl (lv_room (Nat.le_of_ble_eq_true rfl)) dX3_heads_23 ⟨Nat.le_of_ble_eq_true rfl, Nat.le_of_ble_eq_true rfl⟩) hS (fun r_11 S_10 t9 H locs ht9 hS_10 hW hS => ?_)
      have hW : mW G S_10 H := ht9 ▸ hW
      obtain ⟨rfl, eS_10⟩ := hS_10
      refine lv_i2l (v := (nI 0).toInt64) hx hb dX3_heads_26 rfl ?_
      exact W.lret (v := (nI 0).toInt64) hx hb hr (fun t9 ht9 _ => ⟨⟨_, S_10, rfl, ⟨no0 (k := 1) (by unfold cdHeads; (try simp only [cn_i_5]); rw [if_pos (isP_nI hi_5), if_neg (ne_true_of_eq_false d_18)]) (by decide), (by rw [mF_no (by unfold cdHeads; (try simp only [cn_i_5]); rw [if_pos (isP_nI hi_5), if_neg (ne_true_of_eq_false d_18)]) (by decide)]; exact eS_10)⟩, (show mW G S_10 t9.heap by rw [ht9]; exact hW)⟩, hS.F ht9⟩) hS.2.2 dX3_heads_27

set_option maxHeartbeats 4000000 in
set_option maxRecDepth 100000 in
theorem k_X3_has (l : Launch) (G : GT) (S : SS) (sz : Nat) (x : Int32) : Met l yX3_has wsX3_has ({ frames := 1, cells := 0, slots := 0, locals := 21 } : Room) (va_Pc [.ref (gA G 0), .int x] (fun U => U.heap.size = sz ∧ mP G S U)) (va_Ql (fun r S' => ((cdHas x) = 0 → r = (mT S).2 10 (cn x)) ∧ S' = mF (mT S) (cdHas x) (mT S)) (mB G) (gF G sz)) 0 0 (gF G sz) := by
  refine Met.ofW (cc := cX3_has) (maxL := 2) (ret := (some .long)) (by decide) rfl ?_
  intro p e s m args below meth c s₁ B hml hv
  obtain ⟨rfl, hsz, hW, hK⟩ := hv
  subst hsz
  have hx := B.exec
  have hb := B.bytes
  have hr := B.returns
  have hts := atoms_spec (ws := wsX3_has) B.pre
  have hown : s.vm.findClass RX3 = some m.cls := findClass_of_methodNamed B.named
  have hlocks := B.notSynchronized
  have hS : va_S (gF G s.heap.size) s.heap s.heap [] := va_S.rf
  have inX3 : ∀ w ∈ u_ws RX3 TX3 22, w ∈ wsX3_has := by decide +kernel
  have hl := lv_entry ([.ref (gA G 0), .int x]) (n := 2) (Nat.le_of_ble_eq_true rfl)
  rw [lg_entry_eq]
  generalize (lg_sl ([.ref (gA G 0), .int x]) ++ List.replicate (2 - (lg_sl ([.ref (gA G 0), .int x])).length) Slot.unset).toArray = ls at hl ⊢
  have hl : lv_has ls 2 [(0, .ref (gA G 0)), (1, .int x)] := hl
  refine lv_aload_n hx hb dX3_has_0 rfl (lv_at hl 0 rfl) ?_
  refine lv_iconst (v := nI 0) hx hb dX3_has_1 (by decide) ?_
  refine va_put (D := gD G) (ci := 3) (v := .int (nI 0)) (ty := .int) (C := RX3) (T := TX3) (N := 22) hx hb hts inX3 tyX3 tyX3_ok nmX3 hown hK.1 hW (wl_D hK.2.1) hS 0 mw_0 rfl 0 (by decide) (hts (.fieldLink RX3 76 "MarkedTreesModel" "thrown" "I") (by decide +kernel)) (fun _ h9 => h9) rfl (by decide +kernel) rfl rfl (Nat.le_of_ble_eq_true rfl) dX3_has_2 (fun H locs hW _ hS => ?_)
  have hW : mW G (s1 S 0 0 (nI 0)) H := mp_0_0 hW
  obtain ⟨S_1, eS_1⟩ : ∃ z, z = s1 S 0 0 (nI 0) := ⟨_, rfl⟩
  rw [← eS_1] at hW
  have hT : S_1 = mT S := eS_1
  subst hT
  refine lv_iload_n hx hb dX3_has_5 rfl (lv_at hl 1 rfl) ?_
  refine pv_i (va_runS (As := [.int x]) (rest := []) ⟨hx, hb, hml, hown, hts⟩ (k_X3_isPeer l x) (va_cwS 1 hts gX3_has_X3_isPeer rfl rfl rfl (by decide +kernel) ⟨Nat.le_of_ble_eq_true rfl, Nat.le_of_ble_eq_true rfl⟩) ⟨(fun _ _ _ _ h => h), fun U _ _ => ⟨rfl, trivial⟩⟩ rfl rfl hl.1 rfl (lv_room (Nat.le_of_ble_eq_true rfl)) dX3_has_6 ⟨Nat.le_of_ble_eq_true rfl, Nat.le_of_ble_eq_true rfl⟩) (fun r_2 hr_2 => ?_)
  have hr_2 : r_2 = bI (isP x) := hr_2
  subst hr_2
  refine bv_if_eq (b := isP x) (tgt := 21) hx hb dX3_has_9 (by decide) (fun c_9 => ?_) (fun c_9 => ?_)
  · refine lv_aload_n hx hb dX3_has_21 rfl (lv_at hl 0 rfl) ?_
    refine lv_iconst (v := nI 1) hx hb dX3_has_22 (by decide) ?_
    refine ev_i (va_runV (As := [.int (nI 1)]) (rest := []) ⟨hx, hb, hml, hown, hts⟩ (k_X3_fail l G (mT S) H.size (nI 1)) (cwV 1 hts gX3_has_X3_fail rfl rfl rfl (by decide +kernel) ⟨Nat.le_of_ble_eq_true rfl, Nat.le_of_ble_eq_true rfl⟩) ⟨mQ_blind, m_recv hW hK, mQ_at hW hK hS⟩ rfl rfl hl.1 rfl (lv_room (Nat.le_of_ble_eq_true rfl)) dX3_has_23 ⟨Nat.le_of_ble_eq_true rfl, Nat.le_of_ble_eq_true rfl⟩) hS (fun r_4 S_3 t9 H locs ht9 hS_3 hW hS => ?_)
    have hW : mW G S_3 H := ht9 ▸ hW
    obtain ⟨rfl, eS_3⟩ := hS_3
    refine lv_i2l (v := (nI 0).toInt64) hx hb dX3_has_26 rfl ?_
    exact W.lret (v := (nI 0).toInt64) hx hb hr (fun t9 ht9 _ => ⟨⟨_, S_3, rfl, ⟨no0 (k := 1) (by unfold cdHas; rw [if_neg (ne_true_of_eq_false c_9)]) (by decide), (by rw [mF_no (by unfold cdHas; rw [if_neg (ne_true_of_eq_false c_9)]) (by decide)]; exact eS_3)⟩, (show mW G S_3 t9.heap by rw [ht9]; exact hW)⟩, hS.F ht9⟩) hS.2.2 dX3_has_27
  · obtain ⟨i_5, hi_5, rfl⟩ := isP_iff.mp c_9
    have cn_i_5 : cn (nI i_5) = i_5 := cn_nI (by omega)
    refine lv_aload_n hx hb dX3_has_12 rfl (lv_at hl 0 rfl) ?_
    refine va_get (D := gD G) (ci := 3) (v := .ref (gA G 10)) (C := RX3) (T := TX3) (N := 22) hx hb hts inX3 hown hK.1 hW 0 mw_0 rfl 12 (by decide) (hts (.fieldLink RX3 46 "MarkedTreesModel" "have" "[J") (by decide +kernel)) (fun _ h9 => h9) rfl dX3_has_13 ?_
    refine lv_iload_n hx hb dX3_has_16 rfl (lv_at hl 1 rfl) ?_
    refine nv_lald hx hb hK.1 hW 10 1 mw_10 rfl (i := i_5) (by omega) (by decide) dX3_has_17 ?_
    refine lv_goto (tgt := 27) hx hb dX3_has_18 (by decide) ?_
    exact W.lret (v := (mT S).2 10 i_5) hx hb hr (fun t9 ht9 _ => ⟨⟨_, (mT S), rfl, ⟨fun _ => (by first | (simp only [cn_i_5]; done) | (simp only [cn_i_5]; rfl) | (rfl)), (by rw [mF_ok (by unfold cdHas; (try simp only [cn_i_5]); rw [if_pos (isP_nI hi_5)])])⟩, (show mW G (mT S) t9.heap by rw [ht9]; exact hW)⟩, hS.F ht9⟩) hS.2.2 dX3_has_27
