set_option maxHeartbeats 4000000 in
set_option maxRecDepth 100000 in
theorem k_X3_open (l : Launch) (G : GT) (S : SS) (sz : Nat) {rc : Nat} (hrc : S.1 0 1 = nI rc) (h1r : 1 ≤ rc) (h40 : rc ≤ 40) (x y : Int32) : Met l yX3_open wsX3_open ({ frames := 2, cells := 0, slots := 0, locals := 49 } : Room) (va_Pc [.ref (gA G 0), .int x, .int y] (fun U => U.heap.size = sz ∧ mP G S U)) (va_Qv (fun S' => S' = mF (mT S) (mcOpen (mT S) rc x y) (s1 (mct (mT S) (cn y) (40 + cn x)) 11 (cn x) (nI (cn y)))) (mB G) (gF G sz)) 0 0 (gF G sz) := by
  refine Met.ofW (cc := cX3_open) (maxL := 3) (ret := none) (by decide) rfl ?_
  intro p e s m args below meth c s₁ B hml hv
  obtain ⟨rfl, hsz, hW, hK⟩ := hv
  subst hsz
  have hx := B.exec
  have hb := B.bytes
  have hr := B.returns
  have hts := atoms_spec (ws := wsX3_open) B.pre
  have hown : s.vm.findClass RX3 = some m.cls := findClass_of_methodNamed B.named
  have hlocks := B.notSynchronized
  have hS : va_S (gF G s.heap.size) s.heap s.heap [] := va_S.rf
  have inX3 : ∀ w ∈ u_ws RX3 TX3 22, w ∈ wsX3_open := by decide +kernel
  have hl := lv_entry ([.ref (gA G 0), .int x, .int y]) (n := 3) (Nat.le_of_ble_eq_true rfl)
  rw [lg_entry_eq]
  generalize (lg_sl ([.ref (gA G 0), .int x, .int y]) ++ List.replicate (3 - (lg_sl ([.ref (gA G 0), .int x, .int y])).length) Slot.unset).toArray = ls at hl ⊢
  have hl : lv_has ls 3 [(0, .ref (gA G 0)), (1, .int x), (2, .int y)] := hl
  refine lv_aload_n hx hb dX3_open_0 rfl (lv_at hl 0 rfl) ?_
  refine lv_iconst (v := nI 0) hx hb dX3_open_1 (by decide) ?_
  refine va_put (D := gD G) (ci := 3) (v := .int (nI 0)) (ty := .int) (C := RX3) (T := TX3) (N := 22) hx hb hts inX3 tyX3 tyX3_ok nmX3 hown hK.1 hW (wl_D hK.2.1) hS 0 mw_0 rfl 0 (by decide) (hts (.fieldLink RX3 76 "MarkedTreesModel" "thrown" "I") (by decide +kernel)) (fun _ h9 => h9) rfl (by decide +kernel) rfl rfl (Nat.le_of_ble_eq_true rfl) dX3_open_2 (fun H locs hW _ hS => ?_)
  have hW : mW G (s1 S 0 0 (nI 0)) H := mp_0_0 hW
  obtain ⟨S_1, eS_1⟩ : ∃ z, z = s1 S 0 0 (nI 0) := ⟨_, rfl⟩
  rw [← eS_1] at hW
  have hT : S_1 = mT S := eS_1
  subst hT
  have hrcT : (mT S).1 0 1 = nI rc := (mT_0 _ (by omega)).trans hrc
  refine lv_iload_n hx hb dX3_open_5 rfl (lv_at hl 1 rfl) ?_
  refine pv_i (va_runS (As := [.int x]) (rest := []) ⟨hx, hb, hml, hown, hts⟩ (k_X3_isPeer l x) (va_cwS 1 hts gX3_open_X3_isPeer rfl rfl rfl (by decide +kernel) ⟨Nat.le_of_ble_eq_true rfl, Nat.le_of_ble_eq_true rfl⟩) ⟨(fun _ _ _ _ h => h), fun U _ _ => ⟨rfl, trivial⟩⟩ rfl rfl hl.1 rfl (lv_room (Nat.le_of_ble_eq_true rfl)) dX3_open_6 ⟨Nat.le_of_ble_eq_true rfl, Nat.le_of_ble_eq_true rfl⟩) (fun r_2 hr_2 => ?_)
  have hr_2 : r_2 = bI (isP x) := hr_2
  subst hr_2
  refine bv_if_eq (b := isP x) (tgt := 21) hx hb dX3_open_9 (by decide) (fun c_9 => ?_) (fun c_9 => ?_)
  · refine lv_aload_n hx hb dX3_open_21 rfl (lv_at hl 0 rfl) ?_
    refine lv_iconst (v := nI 1) hx hb dX3_open_22 (by decide) ?_
    refine va_put (D := gD G) (ci := 3) (v := .int (nI 1)) (ty := .int) (C := RX3) (T := TX3) (N := 22) hx hb hts inX3 tyX3 tyX3_ok nmX3 hown hK.1 hW (wl_D hK.2.1) hS 0 mw_0 rfl 0 (by decide) (hts (.fieldLink RX3 76 "MarkedTreesModel" "thrown" "I") (by decide +kernel)) (fun _ h9 => h9) rfl (by decide +kernel) rfl rfl (Nat.le_of_ble_eq_true rfl) dX3_open_23 (fun H locs hW _ hS => ?_)
    have hW : mW G (s1 (mT S) 0 0 (nI 1)) H := mp_0_0 hW
    obtain ⟨S_3, eS_3⟩ : ∃ z, z = s1 (mT S) 0 0 (nI 1) := ⟨_, rfl⟩
    rw [← eS_3] at hW
    exact W.vret hx hb hr (fun t9 ht9 _ => ⟨⟨S_3, rfl, (by rw [mF_no (by unfold mcOpen; rw [if_neg (ne_true_of_eq_false c_9)]) (by decide)]; exact eS_3), (show mW G S_3 t9.heap by rw [ht9]; exact hW)⟩, hS.F ht9⟩) hS.2.2 dX3_open_26
  · obtain ⟨i_4, hi_4, rfl⟩ := isP_iff.mp c_9
    have cn_i_4 : cn (nI i_4) = i_4 := cn_nI (by omega)
    refine lv_aload_n hx hb dX3_open_12 rfl (lv_at hl 0 rfl) ?_
    refine lv_iload_n hx hb dX3_open_13 rfl (lv_at hl 1 rfl) ?_
    refine lv_iload_n hx hb dX3_open_14 rfl (lv_at hl 2 rfl) ?_
    refine pv_i (va_runV (As := [.int (nI i_4), .int y]) (rest := []) ⟨hx, hb, hml, hown, hts⟩ (k_X3_hasRevision l G (mT S) (rc := rc) hrcT (by omega) (by omega) (i := i_4) (by omega) y) (cwV 2 hts gX3_open_X3_hasRevision rfl rfl rfl (by decide +kernel) ⟨Nat.le_of_ble_eq_true rfl, Nat.le_of_ble_eq_true rfl⟩) ⟨mP_blind, m_recv hW hK, mP_at hW hK hS⟩ rfl rfl hl.1 rfl (lv_room (Nat.le_of_ble_eq_true rfl)) dX3_open_15 ⟨Nat.le_of_ble_eq_true rfl, Nat.le_of_ble_eq_true rfl⟩) (fun r_5 hr_5 => ?_)
    have hr_5 : r_5 = bI (mHas (mT S) rc i_4 y) := hr_5
    subst hr_5
    refine bv_if_ne (b := mHas (mT S) rc i_4 y) (tgt := 27) hx hb dX3_open_18 (by decide) (fun c_18 => ?_) (fun c_18 => ?_)
    · obtain ⟨j_6, hj_6, rfl, hb_18⟩ := mHas_of (by omega) c_18
      have cn_j_6 : cn (nI j_6) = j_6 := cn_nI (by omega)
      refine lv_aload_n hx hb dX3_open_27 rfl (lv_at hl 0 rfl) ?_
      refine lv_iload_n hx hb dX3_open_28 rfl (lv_at hl 2 rfl) ?_
      refine lv_bipush (v := nI 40) hx hb dX3_open_29 (by decide) ?_
      refine lv_iload_n hx hb dX3_open_31 rfl (lv_at hl 1 rfl) ?_
      refine nv_iadd hx hb dX3_open_32 ?_
      refine ev_v (va_runV (As := [.int (nI j_6), .int (nI (40 + i_4))]) (rest := []) ⟨hx, hb, hml, hown, hts⟩ (k_X3_copyTree l G (mT S) H.size (f := j_6) (t := 40 + i_4) (by omega) (by omega)) (cwV 2 hts gX3_open_X3_copyTree rfl rfl rfl (by decide +kernel) ⟨Nat.le_of_ble_eq_true rfl, Nat.le_of_ble_eq_true rfl⟩) ⟨mQ_blind, m_recv hW hK, mQ_at hW hK hS⟩ rfl rfl hl.1 rfl (lv_room (Nat.le_of_ble_eq_true rfl)) dX3_open_33 ⟨Nat.le_of_ble_eq_true rfl, Nat.le_of_ble_eq_true rfl⟩) hS (fun S_7 t9 H locs ht9 hS_7 hW hS => ?_)
      have hW : mW G S_7 H := ht9 ▸ hW
      refine lv_aload_n hx hb dX3_open_36 rfl (lv_at hl 0 rfl) ?_
      refine va_get (D := gD G) (ci := 3) (v := .ref (gA G 11)) (C := RX3) (T := TX3) (N := 22) hx hb hts inX3 hown hK.1 hW 0 mw_0 rfl 13 (by decide) (hts (.fieldLink RX3 49 "MarkedTreesModel" "base" "[I") (by decide +kernel)) (fun _ h9 => h9) rfl dX3_open_37 ?_
      refine lv_iload_n hx hb dX3_open_40 rfl (lv_at hl 1 rfl) ?_
      refine lv_iload_n hx hb dX3_open_41 rfl (lv_at hl 2 rfl) ?_
      refine nv_iast hx hb hK.1 hW (wl_D hK.2.1) hS 11 0 mw_11 rfl (i := i_4) (by omega) (by decide) dX3_open_42 (fun H locs hW hS => ?_)
      have hW : mW G (s1 S_7 11 i_4 (nI j_6)) H := mp_11 hW
      obtain ⟨S_8, eS_8⟩ : ∃ z, z = s1 S_7 11 i_4 (nI j_6) := ⟨_, rfl⟩
      rw [← eS_8] at hW
      exact W.vret hx hb hr (fun t9 ht9 _ => ⟨⟨S_8, rfl, (by rw [mF_ok (by unfold mcOpen; (try simp only [cn_i_4, cn_j_6]); rw [if_pos (isP_nI hi_4), if_pos c_18])]; (try simp only [cn_i_4, cn_j_6]); subst_vars; rfl), (show mW G S_8 t9.heap by rw [ht9]; exact hW)⟩, hS.F ht9⟩) hS.2.2 dX3_open_43
    · refine lv_aload_n hx hb dX3_open_21 rfl (lv_at hl 0 rfl) ?_
      refine lv_iconst (v := nI 1) hx hb dX3_open_22 (by decide) ?_
      refine va_put (D := gD G) (ci := 3) (v := .int (nI 1)) (ty := .int) (C := RX3) (T := TX3) (N := 22) hx hb hts inX3 tyX3 tyX3_ok nmX3 hown hK.1 hW (wl_D hK.2.1) hS 0 mw_0 rfl 0 (by decide) (hts (.fieldLink RX3 76 "MarkedTreesModel" "thrown" "I") (by decide +kernel)) (fun _ h9 => h9) rfl (by decide +kernel) rfl rfl (Nat.le_of_ble_eq_true rfl) dX3_open_23 (fun H locs hW _ hS => ?_)
      have hW : mW G (s1 (mT S) 0 0 (nI 1)) H := mp_0_0 hW
      obtain ⟨S_9, eS_9⟩ : ∃ z, z = s1 (mT S) 0 0 (nI 1) := ⟨_, rfl⟩
      rw [← eS_9] at hW
      exact W.vret hx hb hr (fun t9 ht9 _ => ⟨⟨S_9, rfl, (by rw [mF_no (by unfold mcOpen; (try simp only [cn_i_4]); rw [if_pos (isP_nI hi_4), if_neg (ne_true_of_eq_false c_18)]) (by decide)]; exact eS_9), (show mW G S_9 t9.heap by rw [ht9]; exact hW)⟩, hS.F ht9⟩) hS.2.2 dX3_open_26

set_option maxHeartbeats 4000000 in
set_option maxRecDepth 100000 in
theorem k_X3_add (l : Launch) (G : GT) (S : SS) (sz : Nat) {nc : Nat} (hnc : S.1 0 3 = nI nc) (h1n : 1 ≤ nc) (h16 : nc ≤ 16) (x y z : Int32) (db : Bool) : Met l yX3_add wsX3_add ({ frames := 3, cells := 0, slots := 0, locals := 70 } : Room) (va_Pc [.ref (gA G 0), .int x, .int y, .int z, .int (bI db)] (fun U => U.heap.size = sz ∧ mP G S U)) (va_Qi (fun r S' => ((mcAdd (mT S) nc x y z) = 0 → r = nI nc) ∧ S' = mF (mT S) (mcAdd (mT S) nc x y z) (mdAdd (mT S) nc (cn x) (cn y) (cn z) db)) (mB G) (gF G sz)) 0 0 (gF G sz) := by
  refine Met.ofW (cc := cX3_add) (maxL := 7) (ret := (some .int)) (by decide) rfl ?_
  intro p e s m args below meth c s₁ B hml hv
  obtain ⟨rfl, hsz, hW, hK⟩ := hv
  subst hsz
  have hx := B.exec
  have hb := B.bytes
  have hr := B.returns
  have hts := atoms_spec (ws := wsX3_add) B.pre
  have hown : s.vm.findClass RX3 = some m.cls := findClass_of_methodNamed B.named
  have hlocks := B.notSynchronized
  have hS : va_S (gF G s.heap.size) s.heap s.heap [] := va_S.rf
  have inX3 : ∀ w ∈ u_ws RX3 TX3 22, w ∈ wsX3_add := by decide +kernel
  have hl := lv_entry ([.ref (gA G 0), .int x, .int y, .int z, .int (bI db)]) (n := 7) (Nat.le_of_ble_eq_true rfl)
  rw [lg_entry_eq]
  generalize (lg_sl ([.ref (gA G 0), .int x, .int y, .int z, .int (bI db)]) ++ List.replicate (7 - (lg_sl ([.ref (gA G 0), .int x, .int y, .int z, .int (bI db)])).length) Slot.unset).toArray = ls at hl ⊢
  have hl : lv_has ls 7 [(0, .ref (gA G 0)), (1, .int x), (2, .int y), (3, .int z), (4, .int (bI db))] := hl
  refine lv_aload_n hx hb dX3_add_0 rfl (lv_at hl 0 rfl) ?_
  refine lv_iconst (v := nI 0) hx hb dX3_add_1 (by decide) ?_
  refine va_put (D := gD G) (ci := 3) (v := .int (nI 0)) (ty := .int) (C := RX3) (T := TX3) (N := 22) hx hb hts inX3 tyX3 tyX3_ok nmX3 hown hK.1 hW (wl_D hK.2.1) hS 0 mw_0 rfl 0 (by decide) (hts (.fieldLink RX3 76 "MarkedTreesModel" "thrown" "I") (by decide +kernel)) (fun _ h9 => h9) rfl (by decide +kernel) rfl rfl (Nat.le_of_ble_eq_true rfl) dX3_add_2 (fun H locs hW _ hS => ?_)
  have hW : mW G (s1 S 0 0 (nI 0)) H := mp_0_0 hW
  obtain ⟨S_1, eS_1⟩ : ∃ z, z = s1 S 0 0 (nI 0) := ⟨_, rfl⟩
  rw [← eS_1] at hW
  have hT : S_1 = mT S := eS_1
  subst hT
  have hncT : (mT S).1 0 3 = nI nc := (mT_0 _ (by omega)).trans hnc
  refine lv_iload_n hx hb dX3_add_5 rfl (lv_at hl 1 rfl) ?_
  refine pv_i (va_runS (As := [.int x]) (rest := []) ⟨hx, hb, hml, hown, hts⟩ (k_X3_isPeer l x) (va_cwS 1 hts gX3_add_X3_isPeer rfl rfl rfl (by decide +kernel) ⟨Nat.le_of_ble_eq_true rfl, Nat.le_of_ble_eq_true rfl⟩) ⟨(fun _ _ _ _ h => h), fun U _ _ => ⟨rfl, trivial⟩⟩ rfl rfl hl.1 rfl (lv_room (Nat.le_of_ble_eq_true rfl)) dX3_add_6 ⟨Nat.le_of_ble_eq_true rfl, Nat.le_of_ble_eq_true rfl⟩) (fun r_2 hr_2 => ?_)
  have hr_2 : r_2 = bI (isP x) := hr_2
  subst hr_2
  refine bv_if_ne (b := isP x) (tgt := 18) hx hb dX3_add_9 (by decide) (fun c_9 => ?_) (fun c_9 => ?_)
  · obtain ⟨i_3, hi_3, rfl⟩ := isP_iff.mp c_9
    have cn_i_3 : cn (nI i_3) = i_3 := cn_nI (by omega)
    refine lv_aload_n hx hb dX3_add_18 rfl (lv_at hl 0 rfl) ?_
    refine va_get (D := gD G) (ci := 3) (v := .ref (gA G 11)) (C := RX3) (T := TX3) (N := 22) hx hb hts inX3 hown hK.1 hW 0 mw_0 rfl 13 (by decide) (hts (.fieldLink RX3 49 "MarkedTreesModel" "base" "[I") (by decide +kernel)) (fun _ h9 => h9) rfl dX3_add_19 ?_
    refine lv_iload_n hx hb dX3_add_22 rfl (lv_at hl 1 rfl) ?_
    refine nv_iald hx hb hK.1 hW 11 0 mw_11 rfl (i := i_3) (by omega) (by decide) dX3_add_23 ?_
    refine lv_if_ge (tgt := 33) hx hb dX3_add_24 (by decide) (fun c_24 => ?_) (fun c_24 => ?_)
    · refine lv_bipush (v := nI 40) hx hb dX3_add_33 (by decide) ?_
      refine lv_iload_n hx hb dX3_add_35 rfl (lv_at hl 1 rfl) ?_
      refine nv_iadd hx hb dX3_add_36 ?_
      refine lv_istore (lv' := [(5, .int (nI (40 + i_3))), (0, .ref (gA G 0)), (1, .int (nI i_3)), (2, .int y), (3, .int z), (4, .int (bI db))]) hx hb dX3_add_37 hl (by decide) rfl (fun ls hl => ?_)
      refine lv_aload_n hx hb dX3_add_39 rfl (lv_at hl 1 rfl) ?_
      refine lv_iload hx hb dX3_add_40 (lv_at hl 0 rfl) ?_
      refine lv_iload_n hx hb dX3_add_42 rfl (lv_at hl 3 rfl) ?_
      refine pv_i (va_runV (As := [.int (nI (40 + i_3)), .int y]) (rest := []) ⟨hx, hb, hml, hown, hts⟩ (k_X3_isAlive l G (mT S) (t := 40 + i_3) (by omega) y) (cwV 2 hts gX3_add_X3_isAlive rfl rfl rfl (by decide +kernel) ⟨Nat.le_of_ble_eq_true rfl, Nat.le_of_ble_eq_true rfl⟩) ⟨mP_blind, m_recv hW hK, mP_at hW hK hS⟩ rfl rfl hl.1 rfl (lv_room (Nat.le_of_ble_eq_true rfl)) dX3_add_43 ⟨Nat.le_of_ble_eq_true rfl, Nat.le_of_ble_eq_true rfl⟩) (fun r_4 hr_4 => ?_)
      subst hr_4
      refine bv_if_ne (b := mAl (mT S) (40 + i_3) y) (tgt := 55) hx hb dX3_add_46 (by decide) (fun c_46 => ?_) (fun c_46 => ?_)
      · obtain ⟨n_5, hn_5, rfl⟩ := mAl_of c_46
        have cn_n_5 : cn (nI n_5) = n_5 := cn_nI (by omega)
        have ca_n_5 := c_46
        rw [mAl_nI _ _ hn_5] at ca_n_5
        refine lv_aload_n hx hb dX3_add_55 rfl (lv_at hl 1 rfl) ?_
        refine va_get (D := gD G) (ci := 3) (v := .ref (gA G 2)) (C := RX3) (T := TX3) (N := 22) hx hb hts inX3 hown hK.1 hW 0 mw_0 rfl 4 (by decide) (hts (.fieldLink RX3 20 "MarkedTreesModel" "directory" "[Z") (by decide +kernel)) (fun _ h9 => h9) rfl dX3_add_56 ?_
        refine lv_iload_n hx hb dX3_add_59 rfl (lv_at hl 3 rfl) ?_
        refine nv_zald hx hb hK.1 hW 2 2 mw_2 rfl (i := n_5) (by omega) (by decide) dX3_add_60 ?_
        refine lv_if_eq (tgt := 86) hx hb dX3_add_61 (by decide) (fun c_61 => ?_) (fun c_61 => ?_)
        · refine lv_aload_n hx hb dX3_add_86 rfl (lv_at hl 1 rfl) ?_
          refine lv_iconst (v := nI 2) hx hb dX3_add_87 (by decide) ?_
          refine ev_i (va_runV (As := [.int (nI 2)]) (rest := []) ⟨hx, hb, hml, hown, hts⟩ (k_X3_fail l G (mT S) H.size (nI 2)) (cwV 1 hts gX3_add_X3_fail rfl rfl rfl (by decide +kernel) ⟨Nat.le_of_ble_eq_true rfl, Nat.le_of_ble_eq_true rfl⟩) ⟨mQ_blind, m_recv hW hK, mQ_at hW hK hS⟩ rfl rfl hl.1 rfl (lv_room (Nat.le_of_ble_eq_true rfl)) dX3_add_88 ⟨Nat.le_of_ble_eq_true rfl, Nat.le_of_ble_eq_true rfl⟩) hS (fun r_7 S_6 t9 H locs ht9 hS_6 hW hS => ?_)
          have hW : mW G S_6 H := ht9 ▸ hW
          obtain ⟨rfl, eS_6⟩ := hS_6
          exact W.iret (v := nI 0) hx hb hr (fun t9 ht9 _ => ⟨⟨_, S_6, rfl, ⟨no0 (k := 2) (by unfold mcAdd; (try simp only [cn_i_3, cn_n_5]); rw [if_pos (isP_nI hi_3), if_pos c_24, if_pos c_46, if_pos c_61]) (by decide), (by rw [mF_no (by unfold mcAdd; (try simp only [cn_i_3, cn_n_5]); rw [if_pos (isP_nI hi_3), if_pos c_24, if_pos c_46, if_pos c_61]) (by decide)]; exact eS_6)⟩, (show mW G S_6 t9.heap by rw [ht9]; exact hW)⟩, hS.F ht9⟩) hS.2.2 dX3_add_91
        · refine lv_iload_n hx hb dX3_add_64 rfl (lv_at hl 4 rfl) ?_
          refine lv_iconst (v := nI 0) hx hb dX3_add_65 (by decide) ?_
          refine lv_bipush (v := nI 9) hx hb dX3_add_66 (by decide) ?_
          refine pv_i (va_runS (As := [.int z, .int (nI 0), .int (nI 9)]) (rest := []) ⟨hx, hb, hml, hown, hts⟩ (k_X3_in l z (nI 0) (nI 9)) (va_cwS 3 hts gX3_add_X3_in rfl rfl rfl (by decide +kernel) ⟨Nat.le_of_ble_eq_true rfl, Nat.le_of_ble_eq_true rfl⟩) ⟨(fun _ _ _ _ h => h), fun U _ _ => ⟨rfl, trivial⟩⟩ rfl rfl hl.1 rfl (lv_room (Nat.le_of_ble_eq_true rfl)) dX3_add_68 ⟨Nat.le_of_ble_eq_true rfl, Nat.le_of_ble_eq_true rfl⟩) (fun r_8 hr_8 => ?_)
          have hr_8 : r_8 = bI (inM z (nI 0) (nI 9)) := hr_8
          subst hr_8
          refine bv_if_eq (b := inM z (nI 0) (nI 9)) (tgt := 86) hx hb dX3_add_71 (by decide) (fun c_71 => ?_) (fun c_71 => ?_)
          · have d_71 : inB z 10 = false := (inM_B z (n := 9) (by decide)).symm.trans c_71
            refine lv_aload_n hx hb dX3_add_86 rfl (lv_at hl 1 rfl) ?_
            refine lv_iconst (v := nI 2) hx hb dX3_add_87 (by decide) ?_
            refine ev_i (va_runV (As := [.int (nI 2)]) (rest := []) ⟨hx, hb, hml, hown, hts⟩ (k_X3_fail l G (mT S) H.size (nI 2)) (cwV 1 hts gX3_add_X3_fail rfl rfl rfl (by decide +kernel) ⟨Nat.le_of_ble_eq_true rfl, Nat.le_of_ble_eq_true rfl⟩) ⟨mQ_blind, m_recv hW hK, mQ_at hW hK hS⟩ rfl rfl hl.1 rfl (lv_room (Nat.le_of_ble_eq_true rfl)) dX3_add_88 ⟨Nat.le_of_ble_eq_true rfl, Nat.le_of_ble_eq_true rfl⟩) hS (fun r_10 S_9 t9 H locs ht9 hS_9 hW hS => ?_)
            have hW : mW G S_9 H := ht9 ▸ hW
            obtain ⟨rfl, eS_9⟩ := hS_9
            exact W.iret (v := nI 0) hx hb hr (fun t9 ht9 _ => ⟨⟨_, S_9, rfl, ⟨no0 (k := 2) (by unfold mcAdd; (try simp only [cn_i_3, cn_n_5]); rw [if_pos (isP_nI hi_3), if_pos c_24, if_pos c_46, if_neg c_61, if_neg (ne_true_of_eq_false d_71)]) (by decide), (by rw [mF_no (by unfold mcAdd; (try simp only [cn_i_3, cn_n_5]); rw [if_pos (isP_nI hi_3), if_pos c_24, if_pos c_46, if_neg c_61, if_neg (ne_true_of_eq_false d_71)]) (by decide)]; exact eS_9)⟩, (show mW G S_9 t9.heap by rw [ht9]; exact hW)⟩, hS.F ht9⟩) hS.2.2 dX3_add_91
          · have d_71 : inB z 10 = true := (inM_B z (n := 9) (by decide)).symm.trans c_71
            obtain ⟨n_11, hn_11, rfl⟩ := (inB_iff (by omega)).mp d_71
            have cn_n_11 : cn (nI n_11) = n_11 := cn_nI (by omega)
            refine lv_aload_n hx hb dX3_add_74 rfl (lv_at hl 1 rfl) ?_
            refine lv_iload hx hb dX3_add_75 (lv_at hl 0 rfl) ?_
            refine lv_iload_n hx hb dX3_add_77 rfl (lv_at hl 3 rfl) ?_
            refine lv_iload_n hx hb dX3_add_78 rfl (lv_at hl 4 rfl) ?_
            refine lv_iconst (v := (-1)) hx hb dX3_add_79 (by decide) ?_
            refine pv_i (va_runV (As := [.int (nI (40 + i_3)), .int (nI n_5), .int (nI n_11), .int (-1)]) (rest := []) ⟨hx, hb, hml, hown, hts⟩ (k_X3_nodeAt l G (mT S) (t := 40 + i_3) (by omega) (nI n_5) (nI n_11) (-1)) (cwV 4 hts gX3_add_X3_nodeAt rfl rfl rfl (by decide +kernel) ⟨Nat.le_of_ble_eq_true rfl, Nat.le_of_ble_eq_true rfl⟩) ⟨mP_blind, m_recv hW hK, mP_at hW hK hS⟩ rfl rfl hl.1 rfl (lv_room (Nat.le_of_ble_eq_true rfl)) dX3_add_80 ⟨Nat.le_of_ble_eq_true rfl, Nat.le_of_ble_eq_true rfl⟩) (fun r_12 hr_12 => ?_)
            have hr_12 : r_12 = naG (mT S) (40 + i_3) (nI n_5) (nI n_11) (-1) 15 (-1) := hr_12
            subst hr_12
            refine lv_if_lt (tgt := 92) hx hb dX3_add_83 (by decide) (fun c_83 => ?_) (fun c_83 => ?_)
            · refine lv_aload_n hx hb dX3_add_92 rfl (lv_at hl 1 rfl) ?_
              refine va_get (D := gD G) (ci := 3) (v := .int (nI nc)) (C := RX3) (T := TX3) (N := 22) hx hb hts inX3 hown hK.1 hW 0 mw_0 rfl 3 (by decide) (hts (.fieldLink RX3 17 "MarkedTreesModel" "nodes" "I") (by decide +kernel)) (fun _ h9 => h9) (by rw [← hncT]; rfl) dX3_add_93 ?_
              refine lv_bipush (v := nI 16) hx hb dX3_add_96 (by decide) ?_
              refine nv_icmp_ne (tgt := 107) hx hb (by omega) (by omega) dX3_add_98 (by decide) (fun c_98 => ?_) (fun c_98 => ?_)
              · refine lv_aload_n hx hb dX3_add_107 rfl (lv_at hl 1 rfl) ?_
                refine va_get (D := gD G) (ci := 3) (v := .int (nI nc)) (C := RX3) (T := TX3) (N := 22) hx hb hts inX3 hown hK.1 hW 0 mw_0 rfl 3 (by decide) (hts (.fieldLink RX3 17 "MarkedTreesModel" "nodes" "I") (by decide +kernel)) (fun _ h9 => h9) (by rw [← hncT]; rfl) dX3_add_108 ?_
                refine lv_istore (lv' := [(6, .int (nI nc)), (5, .int (nI (40 + i_3))), (0, .ref (gA G 0)), (1, .int (nI i_3)), (2, .int (nI n_5)), (3, .int (nI n_11)), (4, .int (bI db))]) hx hb dX3_add_111 hl (by decide) rfl (fun ls hl => ?_)
                refine lv_aload_n hx hb dX3_add_113 rfl (lv_at hl 2 rfl) ?_
                refine lv_dup hx hb dX3_add_114 rfl ?_
                refine va_get (D := gD G) (ci := 3) (v := .int (nI nc)) (C := RX3) (T := TX3) (N := 22) hx hb hts inX3 hown hK.1 hW 0 mw_0 rfl 3 (by decide) (hts (.fieldLink RX3 17 "MarkedTreesModel" "nodes" "I") (by decide +kernel)) (fun _ h9 => h9) (by rw [← hncT]; rfl) dX3_add_115 ?_
                refine lv_iconst (v := nI 1) hx hb dX3_add_118 (by decide) ?_
                refine nv_iadd hx hb dX3_add_119 ?_
                refine va_put (D := gD G) (ci := 3) (v := .int (nI (nc + 1))) (ty := .int) (C := RX3) (T := TX3) (N := 22) hx hb hts inX3 tyX3 tyX3_ok nmX3 hown hK.1 hW (wl_D hK.2.1) hS 0 mw_0 rfl 3 (by decide) (hts (.fieldLink RX3 17 "MarkedTreesModel" "nodes" "I") (by decide +kernel)) (fun _ h9 => h9) rfl (by decide +kernel) rfl rfl (Nat.le_of_ble_eq_true rfl) dX3_add_120 (fun H locs hW _ hS => ?_)
                have hW : mW G (s1 (mT S) 0 3 (nI (nc + 1))) H := mp_0_3 hW
                obtain ⟨S_13, eS_13⟩ : ∃ z, z = s1 (mT S) 0 3 (nI (nc + 1)) := ⟨_, rfl⟩
                rw [← eS_13] at hW
                refine lv_aload_n hx hb dX3_add_123 rfl (lv_at hl 2 rfl) ?_
                refine va_get (D := gD G) (ci := 3) (v := .ref (gA G 2)) (C := RX3) (T := TX3) (N := 22) hx hb hts inX3 hown hK.1 hW 0 mw_0 rfl 4 (by decide) (hts (.fieldLink RX3 20 "MarkedTreesModel" "directory" "[Z") (by decide +kernel)) (fun _ h9 => h9) rfl dX3_add_124 ?_
                refine lv_iload hx hb dX3_add_127 (lv_at hl 0 rfl) ?_
                refine lv_iload hx hb dX3_add_129 (lv_at hl 6 rfl) ?_
                refine nv_zast hx hb hK.1 hW (wl_D hK.2.1) hS 2 2 mw_2 rfl (i := nc) (by omega) (by decide) dX3_add_131 (fun H locs hW hS => ?_)
                have hW : mW G (s1 S_13 2 nc (vp_nar .boolean (bI db))) H := mp_2 hW
                obtain ⟨S_14, eS_14⟩ : ∃ z, z = s1 S_13 2 nc (vp_nar .boolean (bI db)) := ⟨_, rfl⟩
                rw [← eS_14] at hW
                refine lv_aload_n hx hb dX3_add_132 rfl (lv_at hl 2 rfl) ?_
                refine va_get (D := gD G) (ci := 3) (v := .ref (gA G 3)) (C := RX3) (T := TX3) (N := 22) hx hb hts inX3 hown hK.1 hW 0 mw_0 rfl 5 (by decide) (hts (.fieldLink RX3 24 "MarkedTreesModel" "birth" "[I") (by decide +kernel)) (fun _ h9 => h9) rfl dX3_add_133 ?_
                refine lv_iload hx hb dX3_add_136 (lv_at hl 0 rfl) ?_
                refine lv_iconst (v := (-1)) hx hb dX3_add_138 (by decide) ?_
                refine nv_iast hx hb hK.1 hW (wl_D hK.2.1) hS 3 0 mw_3 rfl (i := nc) (by omega) (by decide) dX3_add_139 (fun H locs hW hS => ?_)
                have hW : mW G (s1 S_14 3 nc (-1)) H := mp_3 hW
                obtain ⟨S_15, eS_15⟩ : ∃ z, z = s1 S_14 3 nc (-1) := ⟨_, rfl⟩
                rw [← eS_15] at hW
                refine lv_aload_n hx hb dX3_add_140 rfl (lv_at hl 2 rfl) ?_
                refine va_get (D := gD G) (ci := 3) (v := .ref (gA G 4)) (C := RX3) (T := TX3) (N := 22) hx hb hts inX3 hown hK.1 hW 0 mw_0 rfl 6 (by decide) (hts (.fieldLink RX3 28 "MarkedTreesModel" "alive" "[I") (by decide +kernel)) (fun _ h9 => h9) rfl dX3_add_141 ?_
                refine lv_iload hx hb dX3_add_144 (lv_at hl 1 rfl) ?_
                refine lv_dup2_11 hx hb dX3_add_146 rfl rfl ?_
                refine nv_iald hx hb hK.1 hW 4 0 mw_4 rfl (i := 40 + i_3) (by omega) (by decide) dX3_add_147 ?_
                refine lv_iconst (v := nI 1) hx hb dX3_add_148 (by decide) ?_
                refine lv_iload hx hb dX3_add_149 (lv_at hl 0 rfl) ?_
                refine lv_ishl hx hb dX3_add_151 ?_
                refine lv_ior hx hb dX3_add_152 ?_
                refine nv_iast hx hb hK.1 hW (wl_D hK.2.1) hS 4 0 mw_4 rfl (i := 40 + i_3) (by omega) (by decide) dX3_add_153 (fun H locs hW hS => ?_)
                have hW : mW G (s1 S_15 4 (40 + i_3) ((S_15.1 4 (40 + i_3)) ||| ((nI 1) <<< ((nI nc) &&& 31)))) H := mp_4 hW
                obtain ⟨S_16, eS_16⟩ : ∃ z, z = s1 S_15 4 (40 + i_3) ((S_15.1 4 (40 + i_3)) ||| ((nI 1) <<< ((nI nc) &&& 31))) := ⟨_, rfl⟩
                rw [← eS_16] at hW
                refine lv_aload_n hx hb dX3_add_154 rfl (lv_at hl 2 rfl) ?_
                refine va_get (D := gD G) (ci := 3) (v := .ref (gA G 5)) (C := RX3) (T := TX3) (N := 22) hx hb hts inX3 hown hK.1 hW 0 mw_0 rfl 7 (by decide) (hts (.fieldLink RX3 31 "MarkedTreesModel" "parent" "[I") (by decide +kernel)) (fun _ h9 => h9) rfl dX3_add_155 ?_
                refine lv_bipush (v := nI 16) hx hb dX3_add_158 (by decide) ?_
                refine lv_iload hx hb dX3_add_160 (lv_at hl 1 rfl) ?_
                refine nv_imul hx hb dX3_add_162 ?_
                refine lv_iload hx hb dX3_add_163 (lv_at hl 0 rfl) ?_
                refine nv_iadd hx hb dX3_add_165 ?_
                refine lv_iload_n hx hb dX3_add_166 rfl (lv_at hl 4 rfl) ?_
                refine nv_iast hx hb hK.1 hW (wl_D hK.2.1) hS 5 0 mw_5 rfl (i := (16 * (40 + i_3)) + nc) (by omega) (by decide) dX3_add_167 (fun H locs hW hS => ?_)
                have hW : mW G (s1 S_16 5 ((16 * (40 + i_3)) + nc) (nI n_5)) H := mp_5 hW
                obtain ⟨S_17, eS_17⟩ : ∃ z, z = s1 S_16 5 ((16 * (40 + i_3)) + nc) (nI n_5) := ⟨_, rfl⟩
                rw [← eS_17] at hW
                refine lv_aload_n hx hb dX3_add_168 rfl (lv_at hl 2 rfl) ?_
                refine va_get (D := gD G) (ci := 3) (v := .ref (gA G 6)) (C := RX3) (T := TX3) (N := 22) hx hb hts inX3 hown hK.1 hW 0 mw_0 rfl 8 (by decide) (hts (.fieldLink RX3 34 "MarkedTreesModel" "name" "[I") (by decide +kernel)) (fun _ h9 => h9) rfl dX3_add_169 ?_
                refine lv_bipush (v := nI 16) hx hb dX3_add_172 (by decide) ?_
                refine lv_iload hx hb dX3_add_174 (lv_at hl 1 rfl) ?_
                refine nv_imul hx hb dX3_add_176 ?_
                refine lv_iload hx hb dX3_add_177 (lv_at hl 0 rfl) ?_
                refine nv_iadd hx hb dX3_add_179 ?_
                refine lv_iload_n hx hb dX3_add_180 rfl (lv_at hl 5 rfl) ?_
                refine nv_iast hx hb hK.1 hW (wl_D hK.2.1) hS 6 0 mw_6 rfl (i := (16 * (40 + i_3)) + nc) (by omega) (by decide) dX3_add_181 (fun H locs hW hS => ?_)
                have hW : mW G (s1 S_17 6 ((16 * (40 + i_3)) + nc) (nI n_11)) H := mp_6 hW
                obtain ⟨S_18, eS_18⟩ : ∃ z, z = s1 S_17 6 ((16 * (40 + i_3)) + nc) (nI n_11) := ⟨_, rfl⟩
                rw [← eS_18] at hW
                refine lv_aload_n hx hb dX3_add_182 rfl (lv_at hl 2 rfl) ?_
                refine va_get (D := gD G) (ci := 3) (v := .ref (gA G 7)) (C := RX3) (T := TX3) (N := 22) hx hb hts inX3 hown hK.1 hW 0 mw_0 rfl 9 (by decide) (hts (.fieldLink RX3 37 "MarkedTreesModel" "content" "[I") (by decide +kernel)) (fun _ h9 => h9) rfl dX3_add_183 ?_
                refine lv_bipush (v := nI 16) hx hb dX3_add_186 (by decide) ?_
                refine lv_iload hx hb dX3_add_188 (lv_at hl 1 rfl) ?_
                refine nv_imul hx hb dX3_add_190 ?_
                refine lv_iload hx hb dX3_add_191 (lv_at hl 0 rfl) ?_
                refine nv_iadd hx hb dX3_add_193 ?_
                refine lv_iconst (v := nI 0) hx hb dX3_add_194 (by decide) ?_
                refine nv_iast hx hb hK.1 hW (wl_D hK.2.1) hS 7 0 mw_7 rfl (i := (16 * (40 + i_3)) + nc) (by omega) (by decide) dX3_add_195 (fun H locs hW hS => ?_)
                have hW : mW G (s1 S_18 7 ((16 * (40 + i_3)) + nc) (nI 0)) H := mp_7 hW
                obtain ⟨S_19, eS_19⟩ : ∃ z, z = s1 S_18 7 ((16 * (40 + i_3)) + nc) (nI 0) := ⟨_, rfl⟩
                rw [← eS_19] at hW
                refine lv_aload_n hx hb dX3_add_196 rfl (lv_at hl 2 rfl) ?_
                refine va_get (D := gD G) (ci := 3) (v := .ref (gA G 8)) (C := RX3) (T := TX3) (N := 22) hx hb hts inX3 hown hK.1 hW 0 mw_0 rfl 10 (by decide) (hts (.fieldLink RX3 40 "MarkedTreesModel" "attribute" "[I") (by decide +kernel)) (fun _ h9 => h9) rfl dX3_add_197 ?_
                refine lv_bipush (v := nI 16) hx hb dX3_add_200 (by decide) ?_
                refine lv_iload hx hb dX3_add_202 (lv_at hl 1 rfl) ?_
                refine nv_imul hx hb dX3_add_204 ?_
                refine lv_iload hx hb dX3_add_205 (lv_at hl 0 rfl) ?_
                refine nv_iadd hx hb dX3_add_207 ?_
                refine lv_iconst (v := nI 0) hx hb dX3_add_208 (by decide) ?_
                refine nv_iast hx hb hK.1 hW (wl_D hK.2.1) hS 8 0 mw_8 rfl (i := (16 * (40 + i_3)) + nc) (by omega) (by decide) dX3_add_209 (fun H locs hW hS => ?_)
                have hW : mW G (s1 S_19 8 ((16 * (40 + i_3)) + nc) (nI 0)) H := mp_8 hW
                obtain ⟨S_20, eS_20⟩ : ∃ z, z = s1 S_19 8 ((16 * (40 + i_3)) + nc) (nI 0) := ⟨_, rfl⟩
                rw [← eS_20] at hW
                refine lv_iload hx hb dX3_add_210 (lv_at hl 0 rfl) ?_
                exact W.iret (v := nI nc) hx hb hr (fun t9 ht9 _ => ⟨⟨_, S_20, rfl, ⟨fun _ => (by first | (simp only [cn_i_3, cn_n_5, cn_n_11]; done) | (simp only [cn_i_3, cn_n_5, cn_n_11]; rfl) | (rfl)), (by rw [mF_ok (by unfold mcAdd; (try simp only [cn_i_3, cn_n_5, cn_n_11]); rw [if_pos (isP_nI hi_3), if_pos c_24, if_pos c_46, if_neg c_61, if_pos d_71, if_pos c_83, if_neg c_98])]; (try simp only [cn_i_3, cn_n_5, cn_n_11]); subst_vars; rfl)⟩, (show mW G S_20 t9.heap by rw [ht9]; exact hW)⟩, hS.F ht9⟩) hS.2.2 dX3_add_212
              · refine lv_aload_n hx hb dX3_add_101 rfl (lv_at hl 1 rfl) ?_
                refine lv_iconst (v := nI 3) hx hb dX3_add_102 (by decide) ?_
                refine ev_i (va_runV (As := [.int (nI 3)]) (rest := []) ⟨hx, hb, hml, hown, hts⟩ (k_X3_fail l G (mT S) H.size (nI 3)) (cwV 1 hts gX3_add_X3_fail rfl rfl rfl (by decide +kernel) ⟨Nat.le_of_ble_eq_true rfl, Nat.le_of_ble_eq_true rfl⟩) ⟨mQ_blind, m_recv hW hK, mQ_at hW hK hS⟩ rfl rfl hl.1 rfl (lv_room (Nat.le_of_ble_eq_true rfl)) dX3_add_103 ⟨Nat.le_of_ble_eq_true rfl, Nat.le_of_ble_eq_true rfl⟩) hS (fun r_22 S_21 t9 H locs ht9 hS_21 hW hS => ?_)
                have hW : mW G S_21 H := ht9 ▸ hW
                obtain ⟨rfl, eS_21⟩ := hS_21
                exact W.iret (v := nI 0) hx hb hr (fun t9 ht9 _ => ⟨⟨_, S_21, rfl, ⟨no0 (k := 3) (by unfold mcAdd; (try simp only [cn_i_3, cn_n_5, cn_n_11]); rw [if_pos (isP_nI hi_3), if_pos c_24, if_pos c_46, if_neg c_61, if_pos d_71, if_pos c_83, if_pos c_98]) (by decide), (by rw [mF_no (by unfold mcAdd; (try simp only [cn_i_3, cn_n_5, cn_n_11]); rw [if_pos (isP_nI hi_3), if_pos c_24, if_pos c_46, if_neg c_61, if_pos d_71, if_pos c_83, if_pos c_98]) (by decide)]; exact eS_21)⟩, (show mW G S_21 t9.heap by rw [ht9]; exact hW)⟩, hS.F ht9⟩) hS.2.2 dX3_add_106
            · refine lv_aload_n hx hb dX3_add_86 rfl (lv_at hl 1 rfl) ?_
              refine lv_iconst (v := nI 2) hx hb dX3_add_87 (by decide) ?_
              refine ev_i (va_runV (As := [.int (nI 2)]) (rest := []) ⟨hx, hb, hml, hown, hts⟩ (k_X3_fail l G (mT S) H.size (nI 2)) (cwV 1 hts gX3_add_X3_fail rfl rfl rfl (by decide +kernel) ⟨Nat.le_of_ble_eq_true rfl, Nat.le_of_ble_eq_true rfl⟩) ⟨mQ_blind, m_recv hW hK, mQ_at hW hK hS⟩ rfl rfl hl.1 rfl (lv_room (Nat.le_of_ble_eq_true rfl)) dX3_add_88 ⟨Nat.le_of_ble_eq_true rfl, Nat.le_of_ble_eq_true rfl⟩) hS (fun r_24 S_23 t9 H locs ht9 hS_23 hW hS => ?_)
              have hW : mW G S_23 H := ht9 ▸ hW
              obtain ⟨rfl, eS_23⟩ := hS_23
              exact W.iret (v := nI 0) hx hb hr (fun t9 ht9 _ => ⟨⟨_, S_23, rfl, ⟨no0 (k := 2) (by unfold mcAdd; (try simp only [cn_i_3, cn_n_5, cn_n_11]); rw [if_pos (isP_nI hi_3), if_pos c_24, if_pos c_46, if_neg c_61, if_pos d_71, if_neg c_83]) (by decide), (by rw [mF_no (by unfold mcAdd; (try simp only [cn_i_3, cn_n_5, cn_n_11]); rw [if_pos (isP_nI hi_3), if_pos c_24, if_pos c_46, if_neg c_61, if_pos d_71, if_neg c_83]) (by decide)]; exact eS_23)⟩, (show mW G S_23 t9.heap by rw [ht9]; exact hW)⟩, hS.F ht9⟩) hS.2.2 dX3_add_91
      · refine lv_aload_n hx hb dX3_add_49 rfl (lv_at hl 1 rfl) ?_
        refine lv_iconst (v := nI 1) hx hb dX3_add_50 (by decide) ?_
        refine ev_i (va_runV (As := [.int (nI 1)]) (rest := []) ⟨hx, hb, hml, hown, hts⟩ (k_X3_fail l G (mT S) H.size (nI 1)) (cwV 1 hts gX3_add_X3_fail rfl rfl rfl (by decide +kernel) ⟨Nat.le_of_ble_eq_true rfl, Nat.le_of_ble_eq_true rfl⟩) ⟨mQ_blind, m_recv hW hK, mQ_at hW hK hS⟩ rfl rfl hl.1 rfl (lv_room (Nat.le_of_ble_eq_true rfl)) dX3_add_51 ⟨Nat.le_of_ble_eq_true rfl, Nat.le_of_ble_eq_true rfl⟩) hS (fun r_26 S_25 t9 H locs ht9 hS_25 hW hS => ?_)
        have hW : mW G S_25 H := ht9 ▸ hW
        obtain ⟨rfl, eS_25⟩ := hS_25
        exact W.iret (v := nI 0) hx hb hr (fun t9 ht9 _ => ⟨⟨_, S_25, rfl, ⟨no0 (k := 1) (by unfold mcAdd; (try simp only [cn_i_3]); rw [if_pos (isP_nI hi_3), if_pos c_24, if_neg (ne_true_of_eq_false c_46)]) (by decide), (by rw [mF_no (by unfold mcAdd; (try simp only [cn_i_3]); rw [if_pos (isP_nI hi_3), if_pos c_24, if_neg (ne_true_of_eq_false c_46)]) (by decide)]; exact eS_25)⟩, (show mW G S_25 t9.heap by rw [ht9]; exact hW)⟩, hS.F ht9⟩) hS.2.2 dX3_add_54
    · refine lv_aload_n hx hb dX3_add_27 rfl (lv_at hl 0 rfl) ?_
      refine lv_iconst (v := nI 3) hx hb dX3_add_28 (by decide) ?_
      refine ev_i (va_runV (As := [.int (nI 3)]) (rest := []) ⟨hx, hb, hml, hown, hts⟩ (k_X3_fail l G (mT S) H.size (nI 3)) (cwV 1 hts gX3_add_X3_fail rfl rfl rfl (by decide +kernel) ⟨Nat.le_of_ble_eq_true rfl, Nat.le_of_ble_eq_true rfl⟩) ⟨mQ_blind, m_recv hW hK, mQ_at hW hK hS⟩ rfl rfl hl.1 rfl (lv_room (Nat.le_of_ble_eq_true rfl)) dX3_add_29 ⟨Nat.le_of_ble_eq_true rfl, Nat.le_of_ble_eq_true rfl⟩) hS (fun r_28 S_27 t9 H locs ht9 hS_27 hW hS => ?_)
      have hW : mW G S_27 H := ht9 ▸ hW
      obtain ⟨rfl, eS_27⟩ := hS_27
      exact W.iret (v := nI 0) hx hb hr (fun t9 ht9 _ => ⟨⟨_, S_27, rfl, ⟨no0 (k := 3) (by unfold mcAdd; (try simp only [cn_i_3]); rw [if_pos (isP_nI hi_3), if_neg c_24]) (by decide), (by rw [mF_no (by unfold mcAdd; (try simp only [cn_i_3]); rw [if_pos (isP_nI hi_3), if_neg c_24]) (by decide)]; exact eS_27)⟩, (show mW G S_27 t9.heap by rw [ht9]; exact hW)⟩, hS.F ht9⟩) hS.2.2 dX3_add_32
  · refine lv_aload_n hx hb dX3_add_12 rfl (lv_at hl 0 rfl) ?_
    refine lv_iconst (v := nI 1) hx hb dX3_add_13 (by decide) ?_
    refine ev_i (va_runV (As := [.int (nI 1)]) (rest := []) ⟨hx, hb, hml, hown, hts⟩ (k_X3_fail l G (mT S) H.size (nI 1)) (cwV 1 hts gX3_add_X3_fail rfl rfl rfl (by decide +kernel) ⟨Nat.le_of_ble_eq_true rfl, Nat.le_of_ble_eq_true rfl⟩) ⟨mQ_blind, m_recv hW hK, mQ_at hW hK hS⟩ rfl rfl hl.1 rfl (lv_room (Nat.le_of_ble_eq_true rfl)) dX3_add_14 ⟨Nat.le_of_ble_eq_true rfl, Nat.le_of_ble_eq_true rfl⟩) hS (fun r_30 S_29 t9 H locs ht9 hS_29 hW hS => ?_)
    have hW : mW G S_29 H := ht9 ▸ hW
    obtain ⟨rfl, eS_29⟩ := hS_29
    exact W.iret (v := nI 0) hx hb hr (fun t9 ht9 _ => ⟨⟨_, S_29, rfl, ⟨no0 (k := 1) (by unfold mcAdd; rw [if_neg (ne_true_of_eq_false c_9)]) (by decide), (by rw [mF_no (by unfold mcAdd; rw [if_neg (ne_true_of_eq_false c_9)]) (by decide)]; exact eS_29)⟩, (show mW G S_29 t9.heap by rw [ht9]; exact hW)⟩, hS.F ht9⟩) hS.2.2 dX3_add_17

set_option maxHeartbeats 4000000 in
set_option maxRecDepth 100000 in
theorem k_X3_drop (l : Launch) (G : GT) (S : SS) (sz : Nat) (x y : Int32) : Met l yX3_drop wsX3_drop ({ frames := 2, cells := 0, slots := 0, locals := 44 } : Room) (va_Pc [.ref (gA G 0), .int x, .int y] (fun U => U.heap.size = sz ∧ mP G S U)) (va_Qv (fun S' => S' = mF (mT S) (mcDrop (mT S) x y) (s1 (mT S) 4 (40 + cn x) ((mT S).1 4 (40 + cn x) &&& ((nI 1 <<< (nI (cn y) &&& 31)) ^^^ (-1))))) (mB G) (gF G sz)) 0 0 (gF G sz) := by
  refine Met.ofW (cc := cX3_drop) (maxL := 6) (ret := none) (by decide) rfl ?_
  intro p e s m args below meth c s₁ B hml hv
  obtain ⟨rfl, hsz, hW, hK⟩ := hv
  subst hsz
  have hx := B.exec
  have hb := B.bytes
  have hr := B.returns
  have hts := atoms_spec (ws := wsX3_drop) B.pre
  have hown : s.vm.findClass RX3 = some m.cls := findClass_of_methodNamed B.named
  have hlocks := B.notSynchronized
  have hS : va_S (gF G s.heap.size) s.heap s.heap [] := va_S.rf
  have inX3 : ∀ w ∈ u_ws RX3 TX3 22, w ∈ wsX3_drop := by decide +kernel
  have hl := lv_entry ([.ref (gA G 0), .int x, .int y]) (n := 6) (Nat.le_of_ble_eq_true rfl)
  rw [lg_entry_eq]
  generalize (lg_sl ([.ref (gA G 0), .int x, .int y]) ++ List.replicate (6 - (lg_sl ([.ref (gA G 0), .int x, .int y])).length) Slot.unset).toArray = ls at hl ⊢
  have hl : lv_has ls 6 [(0, .ref (gA G 0)), (1, .int x), (2, .int y)] := hl
  refine lv_aload_n hx hb dX3_drop_0 rfl (lv_at hl 0 rfl) ?_
  refine lv_iconst (v := nI 0) hx hb dX3_drop_1 (by decide) ?_
  refine va_put (D := gD G) (ci := 3) (v := .int (nI 0)) (ty := .int) (C := RX3) (T := TX3) (N := 22) hx hb hts inX3 tyX3 tyX3_ok nmX3 hown hK.1 hW (wl_D hK.2.1) hS 0 mw_0 rfl 0 (by decide) (hts (.fieldLink RX3 76 "MarkedTreesModel" "thrown" "I") (by decide +kernel)) (fun _ h9 => h9) rfl (by decide +kernel) rfl rfl (Nat.le_of_ble_eq_true rfl) dX3_drop_2 (fun H locs hW _ hS => ?_)
  have hW : mW G (s1 S 0 0 (nI 0)) H := mp_0_0 hW
  obtain ⟨S_1, eS_1⟩ : ∃ z, z = s1 S 0 0 (nI 0) := ⟨_, rfl⟩
  rw [← eS_1] at hW
  have hT : S_1 = mT S := eS_1
  subst hT
  refine lv_iload_n hx hb dX3_drop_5 rfl (lv_at hl 1 rfl) ?_
  refine pv_i (va_runS (As := [.int x]) (rest := []) ⟨hx, hb, hml, hown, hts⟩ (k_X3_isPeer l x) (va_cwS 1 hts gX3_drop_X3_isPeer rfl rfl rfl (by decide +kernel) ⟨Nat.le_of_ble_eq_true rfl, Nat.le_of_ble_eq_true rfl⟩) ⟨(fun _ _ _ _ h => h), fun U _ _ => ⟨rfl, trivial⟩⟩ rfl rfl hl.1 rfl (lv_room (Nat.le_of_ble_eq_true rfl)) dX3_drop_6 ⟨Nat.le_of_ble_eq_true rfl, Nat.le_of_ble_eq_true rfl⟩) (fun r_2 hr_2 => ?_)
  have hr_2 : r_2 = bI (isP x) := hr_2
  subst hr_2
  refine bv_if_ne (b := isP x) (tgt := 18) hx hb dX3_drop_9 (by decide) (fun c_9 => ?_) (fun c_9 => ?_)
  · obtain ⟨i_3, hi_3, rfl⟩ := isP_iff.mp c_9
    have cn_i_3 : cn (nI i_3) = i_3 := cn_nI (by omega)
    refine lv_aload_n hx hb dX3_drop_18 rfl (lv_at hl 0 rfl) ?_
    refine va_get (D := gD G) (ci := 3) (v := .ref (gA G 11)) (C := RX3) (T := TX3) (N := 22) hx hb hts inX3 hown hK.1 hW 0 mw_0 rfl 13 (by decide) (hts (.fieldLink RX3 49 "MarkedTreesModel" "base" "[I") (by decide +kernel)) (fun _ h9 => h9) rfl dX3_drop_19 ?_
    refine lv_iload_n hx hb dX3_drop_22 rfl (lv_at hl 1 rfl) ?_
    refine nv_iald hx hb hK.1 hW 11 0 mw_11 rfl (i := i_3) (by omega) (by decide) dX3_drop_23 ?_
    refine lv_if_ge (tgt := 33) hx hb dX3_drop_24 (by decide) (fun c_24 => ?_) (fun c_24 => ?_)
    · refine lv_bipush (v := nI 40) hx hb dX3_drop_33 (by decide) ?_
      refine lv_iload_n hx hb dX3_drop_35 rfl (lv_at hl 1 rfl) ?_
      refine nv_iadd hx hb dX3_drop_36 ?_
      refine lv_istore_n (lv' := [(3, .int (nI (40 + i_3))), (0, .ref (gA G 0)), (1, .int (nI i_3)), (2, .int y)]) hx hb dX3_drop_37 rfl hl (by decide) rfl (fun ls hl => ?_)
      refine lv_aload_n hx hb dX3_drop_38 rfl (lv_at hl 1 rfl) ?_
      refine lv_iload_n hx hb dX3_drop_39 rfl (lv_at hl 0 rfl) ?_
      refine lv_iload_n hx hb dX3_drop_40 rfl (lv_at hl 3 rfl) ?_
      refine pv_i (va_runV (As := [.int (nI (40 + i_3)), .int y]) (rest := []) ⟨hx, hb, hml, hown, hts⟩ (k_X3_isAlive l G (mT S) (t := 40 + i_3) (by omega) y) (cwV 2 hts gX3_drop_X3_isAlive rfl rfl rfl (by decide +kernel) ⟨Nat.le_of_ble_eq_true rfl, Nat.le_of_ble_eq_true rfl⟩) ⟨mP_blind, m_recv hW hK, mP_at hW hK hS⟩ rfl rfl hl.1 rfl (lv_room (Nat.le_of_ble_eq_true rfl)) dX3_drop_41 ⟨Nat.le_of_ble_eq_true rfl, Nat.le_of_ble_eq_true rfl⟩) (fun r_4 hr_4 => ?_)
      subst hr_4
      refine bv_if_ne (b := mAl (mT S) (40 + i_3) y) (tgt := 53) hx hb dX3_drop_44 (by decide) (fun c_44 => ?_) (fun c_44 => ?_)
      · obtain ⟨n_5, hn_5, rfl⟩ := mAl_of c_44
        have cn_n_5 : cn (nI n_5) = n_5 := cn_nI (by omega)
        have ca_n_5 := c_44
        rw [mAl_nI _ _ hn_5] at ca_n_5
        refine lv_iload_n hx hb dX3_drop_53 rfl (lv_at hl 3 rfl) ?_
        refine lv_if_ne (tgt := 61) hx hb dX3_drop_54 (by decide) (fun c_54 => ?_) (fun c_54 => ?_)
        · refine lv_iconst (v := nI 0) hx hb dX3_drop_61 (by decide) ?_
          refine lv_istore (lv' := [(4, .int (nI 0)), (3, .int (nI (40 + i_3))), (0, .ref (gA G 0)), (1, .int (nI i_3)), (2, .int (nI n_5))]) hx hb dX3_drop_62 hl (by decide) rfl (fun ls hl => ?_)
          refine lv_iconst (v := nI 1) hx hb dX3_drop_64 (by decide) ?_
          refine lv_istore (lv' := [(5, .int (nI 1)), (4, .int (nI 0)), (3, .int (nI (40 + i_3))), (0, .ref (gA G 0)), (1, .int (nI i_3)), (2, .int (nI n_5))]) hx hb dX3_drop_65 hl (by decide) rfl (fun ls hl => ?_)
          have LP : ∀ (k : Nat) (hd : Bool) (n : Nat), (1 ≤ n) → (n + k = 16) → (hdG (mT S) (40 + i_3) (nI n_5) k n hd = hdG (mT S) (40 + i_3) (nI n_5) 15 1 (decide (nI n_5 = 0))) → ∀ (ls : Array Slot), lv_has ls 6 [(0, .ref (gA G 0)), (1, .int (nI i_3)), (2, .int (nI n_5)), (3, .int (nI (40 + i_3))), (4, .int (bI hd)), (5, .int (nI n))] → W p l e (headSpec wsX3_drop ({ frames := 2, cells := 0, slots := 0, locals := 44 } : Room)).room s m ([.ref (gA G 0), .int (nI i_3), .int (nI n_5)] : List Value).toArray below meth c H locs 0 0 (MQ below (va_Qv (fun S' => S' = mF (mT S) (mcDrop (mT S) (nI i_3) (nI n_5)) (s1 (mT S) 4 (40 + cn (nI i_3)) ((mT S).1 4 (40 + cn (nI i_3)) &&& ((nI 1 <<< (nI (cn (nI n_5)) &&& 31)) ^^^ (-1))))) (mB G) (gF G s.heap.size)) ([.ref (gA G 0), .int (nI i_3), .int (nI n_5)] : List Value).toArray s 0 0 (gF G s.heap.size)) (F0 m 67 ls []) := by
            intro k
            induction k with
            | zero =>
              intro hd n h1 h2 hhd ls hl
              have hhd : hd = hdG (mT S) (40 + i_3) (nI n_5) 15 1 (decide (nI n_5 = 0)) := hhd
              refine lv_iload hx hb dX3_drop_67 (lv_at hl 5 rfl) ?_
              refine lv_bipush (v := nI 16) hx hb dX3_drop_69 (by decide) ?_
              refine nv_icmp_ge (tgt := 118) hx hb (by omega) (by omega) dX3_drop_71 (by decide) (fun c_71 => ?_) (fun c_71 => ?_)
              · refine lv_iload hx hb dX3_drop_118 (lv_at hl 4 rfl) ?_
                refine bv_if_eq (b := hd) (tgt := 129) hx hb dX3_drop_120 (by decide) (fun c_120 => ?_) (fun c_120 => ?_)
                · refine lv_aload_n hx hb dX3_drop_129 rfl (lv_at hl 0 rfl) ?_
                  refine va_get (D := gD G) (ci := 3) (v := .ref (gA G 4)) (C := RX3) (T := TX3) (N := 22) hx hb hts inX3 hown hK.1 hW 0 mw_0 rfl 6 (by decide) (hts (.fieldLink RX3 28 "MarkedTreesModel" "alive" "[I") (by decide +kernel)) (fun _ h9 => h9) rfl dX3_drop_130 ?_
                  refine lv_iload_n hx hb dX3_drop_133 rfl (lv_at hl 3 rfl) ?_
                  refine lv_dup2_11 hx hb dX3_drop_134 rfl rfl ?_
                  refine nv_iald hx hb hK.1 hW 4 0 mw_4 rfl (i := 40 + i_3) (by omega) (by decide) dX3_drop_135 ?_
                  refine lv_iconst (v := nI 1) hx hb dX3_drop_136 (by decide) ?_
                  refine lv_iload_n hx hb dX3_drop_137 rfl (lv_at hl 2 rfl) ?_
                  refine lv_ishl hx hb dX3_drop_138 ?_
                  refine lv_iconst (v := (-1)) hx hb dX3_drop_139 (by decide) ?_
                  refine lv_ixor hx hb dX3_drop_140 ?_
                  refine lv_iand hx hb dX3_drop_141 ?_
                  refine nv_iast hx hb hK.1 hW (wl_D hK.2.1) hS 4 0 mw_4 rfl (i := 40 + i_3) (by omega) (by decide) dX3_drop_142 (fun H locs hW hS => ?_)
                  have hW : mW G (s1 (mT S) 4 (40 + i_3) (((mT S).1 4 (40 + i_3)) &&& (((nI 1) <<< ((nI n_5) &&& 31)) ^^^ (-1)))) H := mp_4 hW
                  obtain ⟨S_6, eS_6⟩ : ∃ z, z = s1 (mT S) 4 (40 + i_3) (((mT S).1 4 (40 + i_3)) &&& (((nI 1) <<< ((nI n_5) &&& 31)) ^^^ (-1))) := ⟨_, rfl⟩
                  rw [← eS_6] at hW
                  exact W.vret hx hb hr (fun t9 ht9 _ => ⟨⟨S_6, rfl, (by rw [mF_ok (by unfold mcDrop; (try simp only [cn_i_3, cn_n_5]); rw [if_pos (isP_nI hi_3), if_pos c_24, if_pos c_44, if_neg (ne_true_of_eq_false (hhd ▸ c_120))])]; (try simp only [cn_i_3, cn_n_5]); exact eS_6), (show mW G S_6 t9.heap by rw [ht9]; exact hW)⟩, hS.F ht9⟩) hS.2.2 dX3_drop_143
                · refine lv_aload_n hx hb dX3_drop_123 rfl (lv_at hl 0 rfl) ?_
                  refine lv_iconst (v := nI 2) hx hb dX3_drop_124 (by decide) ?_
                  refine va_put (D := gD G) (ci := 3) (v := .int (nI 2)) (ty := .int) (C := RX3) (T := TX3) (N := 22) hx hb hts inX3 tyX3 tyX3_ok nmX3 hown hK.1 hW (wl_D hK.2.1) hS 0 mw_0 rfl 0 (by decide) (hts (.fieldLink RX3 76 "MarkedTreesModel" "thrown" "I") (by decide +kernel)) (fun _ h9 => h9) rfl (by decide +kernel) rfl rfl (Nat.le_of_ble_eq_true rfl) dX3_drop_125 (fun H locs hW _ hS => ?_)
                  have hW : mW G (s1 (mT S) 0 0 (nI 2)) H := mp_0_0 hW
                  obtain ⟨S_7, eS_7⟩ : ∃ z, z = s1 (mT S) 0 0 (nI 2) := ⟨_, rfl⟩
                  rw [← eS_7] at hW
                  exact W.vret hx hb hr (fun t9 ht9 _ => ⟨⟨S_7, rfl, (by rw [mF_no (by unfold mcDrop; (try simp only [cn_i_3, cn_n_5]); rw [if_pos (isP_nI hi_3), if_pos c_24, if_pos c_44, if_pos (hhd ▸ c_120)]) (by decide)]; exact eS_7), (show mW G S_7 t9.heap by rw [ht9]; exact hW)⟩, hS.F ht9⟩) hS.2.2 dX3_drop_128
              · exact absurd c_71 (by omega)
            | succ k ih =>
              intro hd n h1 h2 hhd ls hl
              refine lv_iload hx hb dX3_drop_67 (lv_at hl 5 rfl) ?_
              refine lv_bipush (v := nI 16) hx hb dX3_drop_69 (by decide) ?_
              refine nv_icmp_ge (tgt := 118) hx hb (by omega) (by omega) dX3_drop_71 (by decide) (fun c_71 => ?_) (fun c_71 => ?_)
              · exact absurd c_71 (by omega)
              · refine lv_iload hx hb dX3_drop_74 (lv_at hl 4 rfl) ?_
                refine bv_if_ne (b := hd) (tgt := 105) hx hb dX3_drop_76 (by decide) (fun c_76 => ?_) (fun c_76 => ?_)
                · refine lv_iconst (v := nI 1) hx hb dX3_drop_105 (by decide) ?_
                  refine lv_goto (tgt := 110) hx hb dX3_drop_106 (by decide) ?_
                  refine lv_istore (lv' := [(4, .int (nI 1)), (0, .ref (gA G 0)), (1, .int (nI i_3)), (2, .int (nI n_5)), (3, .int (nI (40 + i_3))), (5, .int (nI n))]) hx hb dX3_drop_110 hl (by decide) rfl (fun ls hl => ?_)
                  refine lv_iinc (v := nI (n + 1)) (lv' := [(5, .int (nI (n + 1))), (4, .int (nI 1)), (0, .ref (gA G 0)), (1, .int (nI i_3)), (2, .int (nI n_5)), (3, .int (nI (40 + i_3)))]) hx hb dX3_drop_112 hl (k := 5) rfl (nI_add n 1) (by decide) rfl (fun ls hl => ?_)
                  refine lv_goto (tgt := 67) hx hb dX3_drop_115 (by decide) ?_
                  have E : hdG (mT S) (40 + i_3) (nI n_5) (k + 1) n hd = hdG (mT S) (40 + i_3) (nI n_5) k (n + 1) true := by rw [hdG]; congr 1; simp [c_76]
                  have hl : lv_has ls 6 [(5, .int (nI (n + 1))), (4, .int (bI true)), (0, .ref (gA G 0)), (1, .int (nI i_3)), (2, .int (nI n_5)), (3, .int (nI (40 + i_3)))] := hl
                  exact ih true (n + 1) (by omega) (by omega) (E ▸ hhd) ls (lv_sub hl [2, 3, 4, 5, 1, 0] rfl)
                · refine lv_aload_n hx hb dX3_drop_79 rfl (lv_at hl 0 rfl) ?_
                  refine lv_iload_n hx hb dX3_drop_80 rfl (lv_at hl 3 rfl) ?_
                  refine lv_iload hx hb dX3_drop_81 (lv_at hl 5 rfl) ?_
                  refine pv_i (va_runV (As := [.int (nI (40 + i_3)), .int (nI n)]) (rest := []) ⟨hx, hb, hml, hown, hts⟩ (k_X3_isAlive l G (mT S) (t := 40 + i_3) (by omega) (nI n)) (cwV 2 hts gX3_drop_X3_isAlive rfl rfl rfl (by decide +kernel) ⟨Nat.le_of_ble_eq_true rfl, Nat.le_of_ble_eq_true rfl⟩) ⟨mP_blind, m_recv hW hK, mP_at hW hK hS⟩ rfl rfl hl.1 rfl (lv_room (Nat.le_of_ble_eq_true rfl)) dX3_drop_83 ⟨Nat.le_of_ble_eq_true rfl, Nat.le_of_ble_eq_true rfl⟩) (fun r_8 hr_8 => ?_)
                  rw [mAl_nI (mT S) (40 + i_3) (by omega)] at hr_8
                  subst hr_8
                  refine bv_if_eq (b := ti ((mT S).1 4 (40 + i_3)) n) (tgt := 109) hx hb dX3_drop_86 (by decide) (fun c_86 => ?_) (fun c_86 => ?_)
                  · refine lv_iconst (v := nI 0) hx hb dX3_drop_109 (by decide) ?_
                    refine lv_istore (lv' := [(4, .int (nI 0)), (0, .ref (gA G 0)), (1, .int (nI i_3)), (2, .int (nI n_5)), (3, .int (nI (40 + i_3))), (5, .int (nI n))]) hx hb dX3_drop_110 hl (by decide) rfl (fun ls hl => ?_)
                    refine lv_iinc (v := nI (n + 1)) (lv' := [(5, .int (nI (n + 1))), (4, .int (nI 0)), (0, .ref (gA G 0)), (1, .int (nI i_3)), (2, .int (nI n_5)), (3, .int (nI (40 + i_3)))]) hx hb dX3_drop_112 hl (k := 5) rfl (nI_add n 1) (by decide) rfl (fun ls hl => ?_)
                    refine lv_goto (tgt := 67) hx hb dX3_drop_115 (by decide) ?_
                    have E : hdG (mT S) (40 + i_3) (nI n_5) (k + 1) n hd = hdG (mT S) (40 + i_3) (nI n_5) k (n + 1) false := by rw [hdG]; congr 1; simp [c_76, c_86]
                    have hl : lv_has ls 6 [(5, .int (nI (n + 1))), (4, .int (bI false)), (0, .ref (gA G 0)), (1, .int (nI i_3)), (2, .int (nI n_5)), (3, .int (nI (40 + i_3)))] := hl
                    exact ih false (n + 1) (by omega) (by omega) (E ▸ hhd) ls (lv_sub hl [2, 3, 4, 5, 1, 0] rfl)
                  · refine lv_aload_n hx hb dX3_drop_89 rfl (lv_at hl 0 rfl) ?_
                    refine va_get (D := gD G) (ci := 3) (v := .ref (gA G 5)) (C := RX3) (T := TX3) (N := 22) hx hb hts inX3 hown hK.1 hW 0 mw_0 rfl 7 (by decide) (hts (.fieldLink RX3 31 "MarkedTreesModel" "parent" "[I") (by decide +kernel)) (fun _ h9 => h9) rfl dX3_drop_90 ?_
                    refine lv_bipush (v := nI 16) hx hb dX3_drop_93 (by decide) ?_
                    refine lv_iload_n hx hb dX3_drop_95 rfl (lv_at hl 3 rfl) ?_
                    refine nv_imul hx hb dX3_drop_96 ?_
                    refine lv_iload hx hb dX3_drop_97 (lv_at hl 5 rfl) ?_
                    refine nv_iadd hx hb dX3_drop_99 ?_
                    refine nv_iald hx hb hK.1 hW 5 0 mw_5 rfl (i := (16 * (40 + i_3)) + n) (by omega) (by decide) dX3_drop_100 ?_
                    refine lv_iload_n hx hb dX3_drop_101 rfl (lv_at hl 2 rfl) ?_
                    refine lv_icmp_ne (tgt := 109) hx hb dX3_drop_102 (by decide) (fun c_102 => ?_) (fun c_102 => ?_)
                    · refine lv_iconst (v := nI 0) hx hb dX3_drop_109 (by decide) ?_
                      refine lv_istore (lv' := [(4, .int (nI 0)), (0, .ref (gA G 0)), (1, .int (nI i_3)), (2, .int (nI n_5)), (3, .int (nI (40 + i_3))), (5, .int (nI n))]) hx hb dX3_drop_110 hl (by decide) rfl (fun ls hl => ?_)
                      refine lv_iinc (v := nI (n + 1)) (lv' := [(5, .int (nI (n + 1))), (4, .int (nI 0)), (0, .ref (gA G 0)), (1, .int (nI i_3)), (2, .int (nI n_5)), (3, .int (nI (40 + i_3)))]) hx hb dX3_drop_112 hl (k := 5) rfl (nI_add n 1) (by decide) rfl (fun ls hl => ?_)
                      refine lv_goto (tgt := 67) hx hb dX3_drop_115 (by decide) ?_
                      have E : hdG (mT S) (40 + i_3) (nI n_5) (k + 1) n hd = hdG (mT S) (40 + i_3) (nI n_5) k (n + 1) false := by rw [hdG]; congr 1; simp [c_76, c_86, c_102]
                      have hl : lv_has ls 6 [(5, .int (nI (n + 1))), (4, .int (bI false)), (0, .ref (gA G 0)), (1, .int (nI i_3)), (2, .int (nI n_5)), (3, .int (nI (40 + i_3)))] := hl
                      exact ih false (n + 1) (by omega) (by omega) (E ▸ hhd) ls (lv_sub hl [2, 3, 4, 5, 1, 0] rfl)
                    · refine lv_iconst (v := nI 1) hx hb dX3_drop_105 (by decide) ?_
                      refine lv_goto (tgt := 110) hx hb dX3_drop_106 (by decide) ?_
                      refine lv_istore (lv' := [(4, .int (nI 1)), (0, .ref (gA G 0)), (1, .int (nI i_3)), (2, .int (nI n_5)), (3, .int (nI (40 + i_3))), (5, .int (nI n))]) hx hb dX3_drop_110 hl (by decide) rfl (fun ls hl => ?_)
                      refine lv_iinc (v := nI (n + 1)) (lv' := [(5, .int (nI (n + 1))), (4, .int (nI 1)), (0, .ref (gA G 0)), (1, .int (nI i_3)), (2, .int (nI n_5)), (3, .int (nI (40 + i_3)))]) hx hb dX3_drop_112 hl (k := 5) rfl (nI_add n 1) (by decide) rfl (fun ls hl => ?_)
                      refine lv_goto (tgt := 67) hx hb dX3_drop_115 (by decide) ?_
                      have E : hdG (mT S) (40 + i_3) (nI n_5) (k + 1) n hd = hdG (mT S) (40 + i_3) (nI n_5) k (n + 1) true := by rw [hdG]; congr 1; simp [c_76, c_86, c_102]
                      have hl : lv_has ls 6 [(5, .int (nI (n + 1))), (4, .int (bI true)), (0, .ref (gA G 0)), (1, .int (nI i_3)), (2, .int (nI n_5)), (3, .int (nI (40 + i_3)))] := hl
                      exact ih true (n + 1) (by omega) (by omega) (E ▸ hhd) ls (lv_sub hl [2, 3, 4, 5, 1, 0] rfl)
          have hl : lv_has ls 6 [(5, .int (nI 1)), (4, .int (bI false)), (3, .int (nI (40 + i_3))), (0, .ref (gA G 0)), (1, .int (nI i_3)), (2, .int (nI n_5))] := hl
          exact LP 15 false 1 (by omega) (by omega) (by rw [decide_eq_false c_54]) ls (lv_sub hl [3, 4, 5, 2, 1, 0] rfl)
        · refine lv_iconst (v := nI 1) hx hb dX3_drop_57 (by decide) ?_
          refine lv_goto (tgt := 62) hx hb dX3_drop_58 (by decide) ?_
          refine lv_istore (lv' := [(4, .int (nI 1)), (3, .int (nI (40 + i_3))), (0, .ref (gA G 0)), (1, .int (nI i_3)), (2, .int (nI n_5))]) hx hb dX3_drop_62 hl (by decide) rfl (fun ls hl => ?_)
          refine lv_iconst (v := nI 1) hx hb dX3_drop_64 (by decide) ?_
          refine lv_istore (lv' := [(5, .int (nI 1)), (4, .int (nI 1)), (3, .int (nI (40 + i_3))), (0, .ref (gA G 0)), (1, .int (nI i_3)), (2, .int (nI n_5))]) hx hb dX3_drop_65 hl (by decide) rfl (fun ls hl => ?_)
          have LP : ∀ (k : Nat) (hd : Bool) (n : Nat), (1 ≤ n) → (n + k = 16) → (hdG (mT S) (40 + i_3) (nI n_5) k n hd = hdG (mT S) (40 + i_3) (nI n_5) 15 1 (decide (nI n_5 = 0))) → ∀ (ls : Array Slot), lv_has ls 6 [(0, .ref (gA G 0)), (1, .int (nI i_3)), (2, .int (nI n_5)), (3, .int (nI (40 + i_3))), (4, .int (bI hd)), (5, .int (nI n))] → W p l e (headSpec wsX3_drop ({ frames := 2, cells := 0, slots := 0, locals := 44 } : Room)).room s m ([.ref (gA G 0), .int (nI i_3), .int (nI n_5)] : List Value).toArray below meth c H locs 0 0 (MQ below (va_Qv (fun S' => S' = mF (mT S) (mcDrop (mT S) (nI i_3) (nI n_5)) (s1 (mT S) 4 (40 + cn (nI i_3)) ((mT S).1 4 (40 + cn (nI i_3)) &&& ((nI 1 <<< (nI (cn (nI n_5)) &&& 31)) ^^^ (-1))))) (mB G) (gF G s.heap.size)) ([.ref (gA G 0), .int (nI i_3), .int (nI n_5)] : List Value).toArray s 0 0 (gF G s.heap.size)) (F0 m 67 ls []) := by
            intro k
            induction k with
            | zero =>
              intro hd n h1 h2 hhd ls hl
              have hhd : hd = hdG (mT S) (40 + i_3) (nI n_5) 15 1 (decide (nI n_5 = 0)) := hhd
              refine lv_iload hx hb dX3_drop_67 (lv_at hl 5 rfl) ?_
              refine lv_bipush (v := nI 16) hx hb dX3_drop_69 (by decide) ?_
              refine nv_icmp_ge (tgt := 118) hx hb (by omega) (by omega) dX3_drop_71 (by decide) (fun c_71 => ?_) (fun c_71 => ?_)
              · refine lv_iload hx hb dX3_drop_118 (lv_at hl 4 rfl) ?_
                refine bv_if_eq (b := hd) (tgt := 129) hx hb dX3_drop_120 (by decide) (fun c_120 => ?_) (fun c_120 => ?_)
                · refine lv_aload_n hx hb dX3_drop_129 rfl (lv_at hl 0 rfl) ?_
                  refine va_get (D := gD G) (ci := 3) (v := .ref (gA G 4)) (C := RX3) (T := TX3) (N := 22) hx hb hts inX3 hown hK.1 hW 0 mw_0 rfl 6 (by decide) (hts (.fieldLink RX3 28 "MarkedTreesModel" "alive" "[I") (by decide +kernel)) (fun _ h9 => h9) rfl dX3_drop_130 ?_
                  refine lv_iload_n hx hb dX3_drop_133 rfl (lv_at hl 3 rfl) ?_
                  refine lv_dup2_11 hx hb dX3_drop_134 rfl rfl ?_
                  refine nv_iald hx hb hK.1 hW 4 0 mw_4 rfl (i := 40 + i_3) (by omega) (by decide) dX3_drop_135 ?_
                  refine lv_iconst (v := nI 1) hx hb dX3_drop_136 (by decide) ?_
                  refine lv_iload_n hx hb dX3_drop_137 rfl (lv_at hl 2 rfl) ?_
                  refine lv_ishl hx hb dX3_drop_138 ?_
                  refine lv_iconst (v := (-1)) hx hb dX3_drop_139 (by decide) ?_
                  refine lv_ixor hx hb dX3_drop_140 ?_
                  refine lv_iand hx hb dX3_drop_141 ?_
                  refine nv_iast hx hb hK.1 hW (wl_D hK.2.1) hS 4 0 mw_4 rfl (i := 40 + i_3) (by omega) (by decide) dX3_drop_142 (fun H locs hW hS => ?_)
                  have hW : mW G (s1 (mT S) 4 (40 + i_3) (((mT S).1 4 (40 + i_3)) &&& (((nI 1) <<< ((nI n_5) &&& 31)) ^^^ (-1)))) H := mp_4 hW
                  obtain ⟨S_9, eS_9⟩ : ∃ z, z = s1 (mT S) 4 (40 + i_3) (((mT S).1 4 (40 + i_3)) &&& (((nI 1) <<< ((nI n_5) &&& 31)) ^^^ (-1))) := ⟨_, rfl⟩
                  rw [← eS_9] at hW
                  exact W.vret hx hb hr (fun t9 ht9 _ => ⟨⟨S_9, rfl, (by rw [mF_ok (by unfold mcDrop; (try simp only [cn_i_3, cn_n_5]); rw [if_pos (isP_nI hi_3), if_pos c_24, if_pos c_44, if_neg (ne_true_of_eq_false (hhd ▸ c_120))])]; (try simp only [cn_i_3, cn_n_5]); exact eS_9), (show mW G S_9 t9.heap by rw [ht9]; exact hW)⟩, hS.F ht9⟩) hS.2.2 dX3_drop_143
                · refine lv_aload_n hx hb dX3_drop_123 rfl (lv_at hl 0 rfl) ?_
                  refine lv_iconst (v := nI 2) hx hb dX3_drop_124 (by decide) ?_
                  refine va_put (D := gD G) (ci := 3) (v := .int (nI 2)) (ty := .int) (C := RX3) (T := TX3) (N := 22) hx hb hts inX3 tyX3 tyX3_ok nmX3 hown hK.1 hW (wl_D hK.2.1) hS 0 mw_0 rfl 0 (by decide) (hts (.fieldLink RX3 76 "MarkedTreesModel" "thrown" "I") (by decide +kernel)) (fun _ h9 => h9) rfl (by decide +kernel) rfl rfl (Nat.le_of_ble_eq_true rfl) dX3_drop_125 (fun H locs hW _ hS => ?_)
                  have hW : mW G (s1 (mT S) 0 0 (nI 2)) H := mp_0_0 hW
                  obtain ⟨S_10, eS_10⟩ : ∃ z, z = s1 (mT S) 0 0 (nI 2) := ⟨_, rfl⟩
                  rw [← eS_10] at hW
                  exact W.vret hx hb hr (fun t9 ht9 _ => ⟨⟨S_10, rfl, (by rw [mF_no (by unfold mcDrop; (try simp only [cn_i_3, cn_n_5]); rw [if_pos (isP_nI hi_3), if_pos c_24, if_pos c_44, if_pos (hhd ▸ c_120)]) (by decide)]; exact eS_10), (show mW G S_10 t9.heap by rw [ht9]; exact hW)⟩, hS.F ht9⟩) hS.2.2 dX3_drop_128
              · exact absurd c_71 (by omega)
            | succ k ih =>
              intro hd n h1 h2 hhd ls hl
              refine lv_iload hx hb dX3_drop_67 (lv_at hl 5 rfl) ?_
              refine lv_bipush (v := nI 16) hx hb dX3_drop_69 (by decide) ?_
              refine nv_icmp_ge (tgt := 118) hx hb (by omega) (by omega) dX3_drop_71 (by decide) (fun c_71 => ?_) (fun c_71 => ?_)
              · exact absurd c_71 (by omega)
              · refine lv_iload hx hb dX3_drop_74 (lv_at hl 4 rfl) ?_
                refine bv_if_ne (b := hd) (tgt := 105) hx hb dX3_drop_76 (by decide) (fun c_76 => ?_) (fun c_76 => ?_)
                · refine lv_iconst (v := nI 1) hx hb dX3_drop_105 (by decide) ?_
                  refine lv_goto (tgt := 110) hx hb dX3_drop_106 (by decide) ?_
                  refine lv_istore (lv' := [(4, .int (nI 1)), (0, .ref (gA G 0)), (1, .int (nI i_3)), (2, .int (nI n_5)), (3, .int (nI (40 + i_3))), (5, .int (nI n))]) hx hb dX3_drop_110 hl (by decide) rfl (fun ls hl => ?_)
                  refine lv_iinc (v := nI (n + 1)) (lv' := [(5, .int (nI (n + 1))), (4, .int (nI 1)), (0, .ref (gA G 0)), (1, .int (nI i_3)), (2, .int (nI n_5)), (3, .int (nI (40 + i_3)))]) hx hb dX3_drop_112 hl (k := 5) rfl (nI_add n 1) (by decide) rfl (fun ls hl => ?_)
                  refine lv_goto (tgt := 67) hx hb dX3_drop_115 (by decide) ?_
                  have E : hdG (mT S) (40 + i_3) (nI n_5) (k + 1) n hd = hdG (mT S) (40 + i_3) (nI n_5) k (n + 1) true := by rw [hdG]; congr 1; simp [c_76]
                  have hl : lv_has ls 6 [(5, .int (nI (n + 1))), (4, .int (bI true)), (0, .ref (gA G 0)), (1, .int (nI i_3)), (2, .int (nI n_5)), (3, .int (nI (40 + i_3)))] := hl
                  exact ih true (n + 1) (by omega) (by omega) (E ▸ hhd) ls (lv_sub hl [2, 3, 4, 5, 1, 0] rfl)
                · refine lv_aload_n hx hb dX3_drop_79 rfl (lv_at hl 0 rfl) ?_
                  refine lv_iload_n hx hb dX3_drop_80 rfl (lv_at hl 3 rfl) ?_
                  refine lv_iload hx hb dX3_drop_81 (lv_at hl 5 rfl) ?_
                  refine pv_i (va_runV (As := [.int (nI (40 + i_3)), .int (nI n)]) (rest := []) ⟨hx, hb, hml, hown, hts⟩ (k_X3_isAlive l G (mT S) (t := 40 + i_3) (by omega) (nI n)) (cwV 2 hts gX3_drop_X3_isAlive rfl rfl rfl (by decide +kernel) ⟨Nat.le_of_ble_eq_true rfl, Nat.le_of_ble_eq_true rfl⟩) ⟨mP_blind, m_recv hW hK, mP_at hW hK hS⟩ rfl rfl hl.1 rfl (lv_room (Nat.le_of_ble_eq_true rfl)) dX3_drop_83 ⟨Nat.le_of_ble_eq_true rfl, Nat.le_of_ble_eq_true rfl⟩) (fun r_11 hr_11 => ?_)
                  rw [mAl_nI (mT S) (40 + i_3) (by omega)] at hr_11
                  subst hr_11
                  refine bv_if_eq (b := ti ((mT S).1 4 (40 + i_3)) n) (tgt := 109) hx hb dX3_drop_86 (by decide) (fun c_86 => ?_) (fun c_86 => ?_)
                  · refine lv_iconst (v := nI 0) hx hb dX3_drop_109 (by decide) ?_
                    refine lv_istore (lv' := [(4, .int (nI 0)), (0, .ref (gA G 0)), (1, .int (nI i_3)), (2, .int (nI n_5)), (3, .int (nI (40 + i_3))), (5, .int (nI n))]) hx hb dX3_drop_110 hl (by decide) rfl (fun ls hl => ?_)
                    refine lv_iinc (v := nI (n + 1)) (lv' := [(5, .int (nI (n + 1))), (4, .int (nI 0)), (0, .ref (gA G 0)), (1, .int (nI i_3)), (2, .int (nI n_5)), (3, .int (nI (40 + i_3)))]) hx hb dX3_drop_112 hl (k := 5) rfl (nI_add n 1) (by decide) rfl (fun ls hl => ?_)
                    refine lv_goto (tgt := 67) hx hb dX3_drop_115 (by decide) ?_
                    have E : hdG (mT S) (40 + i_3) (nI n_5) (k + 1) n hd = hdG (mT S) (40 + i_3) (nI n_5) k (n + 1) false := by rw [hdG]; congr 1; simp [c_76, c_86]
                    have hl : lv_has ls 6 [(5, .int (nI (n + 1))), (4, .int (bI false)), (0, .ref (gA G 0)), (1, .int (nI i_3)), (2, .int (nI n_5)), (3, .int (nI (40 + i_3)))] := hl
                    exact ih false (n + 1) (by omega) (by omega) (E ▸ hhd) ls (lv_sub hl [2, 3, 4, 5, 1, 0] rfl)
                  · refine lv_aload_n hx hb dX3_drop_89 rfl (lv_at hl 0 rfl) ?_
                    refine va_get (D := gD G) (ci := 3) (v := .ref (gA G 5)) (C := RX3) (T := TX3) (N := 22) hx hb hts inX3 hown hK.1 hW 0 mw_0 rfl 7 (by decide) (hts (.fieldLink RX3 31 "MarkedTreesModel" "parent" "[I") (by decide +kernel)) (fun _ h9 => h9) rfl dX3_drop_90 ?_
                    refine lv_bipush (v := nI 16) hx hb dX3_drop_93 (by decide) ?_
                    refine lv_iload_n hx hb dX3_drop_95 rfl (lv_at hl 3 rfl) ?_
                    refine nv_imul hx hb dX3_drop_96 ?_
                    refine lv_iload hx hb dX3_drop_97 (lv_at hl 5 rfl) ?_
                    refine nv_iadd hx hb dX3_drop_99 ?_
                    refine nv_iald hx hb hK.1 hW 5 0 mw_5 rfl (i := (16 * (40 + i_3)) + n) (by omega) (by decide) dX3_drop_100 ?_
                    refine lv_iload_n hx hb dX3_drop_101 rfl (lv_at hl 2 rfl) ?_
                    refine lv_icmp_ne (tgt := 109) hx hb dX3_drop_102 (by decide) (fun c_102 => ?_) (fun c_102 => ?_)
                    · refine lv_iconst (v := nI 0) hx hb dX3_drop_109 (by decide) ?_
                      refine lv_istore (lv' := [(4, .int (nI 0)), (0, .ref (gA G 0)), (1, .int (nI i_3)), (2, .int (nI n_5)), (3, .int (nI (40 + i_3))), (5, .int (nI n))]) hx hb dX3_drop_110 hl (by decide) rfl (fun ls hl => ?_)
                      refine lv_iinc (v := nI (n + 1)) (lv' := [(5, .int (nI (n + 1))), (4, .int (nI 0)), (0, .ref (gA G 0)), (1, .int (nI i_3)), (2, .int (nI n_5)), (3, .int (nI (40 + i_3)))]) hx hb dX3_drop_112 hl (k := 5) rfl (nI_add n 1) (by decide) rfl (fun ls hl => ?_)
                      refine lv_goto (tgt := 67) hx hb dX3_drop_115 (by decide) ?_
                      have E : hdG (mT S) (40 + i_3) (nI n_5) (k + 1) n hd = hdG (mT S) (40 + i_3) (nI n_5) k (n + 1) false := by rw [hdG]; congr 1; simp [c_76, c_86, c_102]
                      have hl : lv_has ls 6 [(5, .int (nI (n + 1))), (4, .int (bI false)), (0, .ref (gA G 0)), (1, .int (nI i_3)), (2, .int (nI n_5)), (3, .int (nI (40 + i_3)))] := hl
                      exact ih false (n + 1) (by omega) (by omega) (E ▸ hhd) ls (lv_sub hl [2, 3, 4, 5, 1, 0] rfl)
                    · refine lv_iconst (v := nI 1) hx hb dX3_drop_105 (by decide) ?_
                      refine lv_goto (tgt := 110) hx hb dX3_drop_106 (by decide) ?_
                      refine lv_istore (lv' := [(4, .int (nI 1)), (0, .ref (gA G 0)), (1, .int (nI i_3)), (2, .int (nI n_5)), (3, .int (nI (40 + i_3))), (5, .int (nI n))]) hx hb dX3_drop_110 hl (by decide) rfl (fun ls hl => ?_)
                      refine lv_iinc (v := nI (n + 1)) (lv' := [(5, .int (nI (n + 1))), (4, .int (nI 1)), (0, .ref (gA G 0)), (1, .int (nI i_3)), (2, .int (nI n_5)), (3, .int (nI (40 + i_3)))]) hx hb dX3_drop_112 hl (k := 5) rfl (nI_add n 1) (by decide) rfl (fun ls hl => ?_)
                      refine lv_goto (tgt := 67) hx hb dX3_drop_115 (by decide) ?_
                      have E : hdG (mT S) (40 + i_3) (nI n_5) (k + 1) n hd = hdG (mT S) (40 + i_3) (nI n_5) k (n + 1) true := by rw [hdG]; congr 1; simp [c_76, c_86, c_102]
                      have hl : lv_has ls 6 [(5, .int (nI (n + 1))), (4, .int (bI true)), (0, .ref (gA G 0)), (1, .int (nI i_3)), (2, .int (nI n_5)), (3, .int (nI (40 + i_3)))] := hl
                      exact ih true (n + 1) (by omega) (by omega) (E ▸ hhd) ls (lv_sub hl [2, 3, 4, 5, 1, 0] rfl)
          have hl : lv_has ls 6 [(5, .int (nI 1)), (4, .int (bI true)), (3, .int (nI (40 + i_3))), (0, .ref (gA G 0)), (1, .int (nI i_3)), (2, .int (nI n_5))] := hl
          exact LP 15 true 1 (by omega) (by omega) (by rw [decide_eq_true c_54]) ls (lv_sub hl [3, 4, 5, 2, 1, 0] rfl)
      · refine lv_aload_n hx hb dX3_drop_47 rfl (lv_at hl 1 rfl) ?_
        refine lv_iconst (v := nI 1) hx hb dX3_drop_48 (by decide) ?_
        refine va_put (D := gD G) (ci := 3) (v := .int (nI 1)) (ty := .int) (C := RX3) (T := TX3) (N := 22) hx hb hts inX3 tyX3 tyX3_ok nmX3 hown hK.1 hW (wl_D hK.2.1) hS 0 mw_0 rfl 0 (by decide) (hts (.fieldLink RX3 76 "MarkedTreesModel" "thrown" "I") (by decide +kernel)) (fun _ h9 => h9) rfl (by decide +kernel) rfl rfl (Nat.le_of_ble_eq_true rfl) dX3_drop_49 (fun H locs hW _ hS => ?_)
        have hW : mW G (s1 (mT S) 0 0 (nI 1)) H := mp_0_0 hW
        obtain ⟨S_12, eS_12⟩ : ∃ z, z = s1 (mT S) 0 0 (nI 1) := ⟨_, rfl⟩
        rw [← eS_12] at hW
        exact W.vret hx hb hr (fun t9 ht9 _ => ⟨⟨S_12, rfl, (by rw [mF_no (by unfold mcDrop; (try simp only [cn_i_3]); rw [if_pos (isP_nI hi_3), if_pos c_24, if_neg (ne_true_of_eq_false c_44)]) (by decide)]; exact eS_12), (show mW G S_12 t9.heap by rw [ht9]; exact hW)⟩, hS.F ht9⟩) hS.2.2 dX3_drop_52
    · refine lv_aload_n hx hb dX3_drop_27 rfl (lv_at hl 0 rfl) ?_
      refine lv_iconst (v := nI 3) hx hb dX3_drop_28 (by decide) ?_
      refine va_put (D := gD G) (ci := 3) (v := .int (nI 3)) (ty := .int) (C := RX3) (T := TX3) (N := 22) hx hb hts inX3 tyX3 tyX3_ok nmX3 hown hK.1 hW (wl_D hK.2.1) hS 0 mw_0 rfl 0 (by decide) (hts (.fieldLink RX3 76 "MarkedTreesModel" "thrown" "I") (by decide +kernel)) (fun _ h9 => h9) rfl (by decide +kernel) rfl rfl (Nat.le_of_ble_eq_true rfl) dX3_drop_29 (fun H locs hW _ hS => ?_)
      have hW : mW G (s1 (mT S) 0 0 (nI 3)) H := mp_0_0 hW
      obtain ⟨S_13, eS_13⟩ : ∃ z, z = s1 (mT S) 0 0 (nI 3) := ⟨_, rfl⟩
      rw [← eS_13] at hW
      exact W.vret hx hb hr (fun t9 ht9 _ => ⟨⟨S_13, rfl, (by rw [mF_no (by unfold mcDrop; (try simp only [cn_i_3]); rw [if_pos (isP_nI hi_3), if_neg c_24]) (by decide)]; exact eS_13), (show mW G S_13 t9.heap by rw [ht9]; exact hW)⟩, hS.F ht9⟩) hS.2.2 dX3_drop_32
  · refine lv_aload_n hx hb dX3_drop_12 rfl (lv_at hl 0 rfl) ?_
    refine lv_iconst (v := nI 1) hx hb dX3_drop_13 (by decide) ?_
    refine va_put (D := gD G) (ci := 3) (v := .int (nI 1)) (ty := .int) (C := RX3) (T := TX3) (N := 22) hx hb hts inX3 tyX3 tyX3_ok nmX3 hown hK.1 hW (wl_D hK.2.1) hS 0 mw_0 rfl 0 (by decide) (hts (.fieldLink RX3 76 "MarkedTreesModel" "thrown" "I") (by decide +kernel)) (fun _ h9 => h9) rfl (by decide +kernel) rfl rfl (Nat.le_of_ble_eq_true rfl) dX3_drop_14 (fun H locs hW _ hS => ?_)
    have hW : mW G (s1 (mT S) 0 0 (nI 1)) H := mp_0_0 hW
    obtain ⟨S_14, eS_14⟩ : ∃ z, z = s1 (mT S) 0 0 (nI 1) := ⟨_, rfl⟩
    rw [← eS_14] at hW
    exact W.vret hx hb hr (fun t9 ht9 _ => ⟨⟨S_14, rfl, (by rw [mF_no (by unfold mcDrop; rw [if_neg (ne_true_of_eq_false c_9)]) (by decide)]; exact eS_14), (show mW G S_14 t9.heap by rw [ht9]; exact hW)⟩, hS.F ht9⟩) hS.2.2 dX3_drop_17
