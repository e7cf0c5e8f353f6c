set_option maxHeartbeats 4000000 in
set_option maxRecDepth 100000 in
theorem k_X3_open (l : Launch) (G : GT) (S : SS) (sz : Nat) {rc : Nat} (hrc : S.1 0 1 = nI rc) (h1r : 1 ≤ rc) (h40 : rc ≤ 40) (x y : Int32) : Met l yX3_open wsX3_open ({ frames := 2, cells := 0, slots := 0, locals := 49 } : Room) (va_Pc [.ref (gA G 0), .int x, .int y] (fun U => U.heap.size = sz ∧ mP G S U)) (va_Qv (fun S' => S' = mF (mT S) (mcOpen (mT S) rc x y) (s1 (mct (mT S) (cn y) (40 + cn x)) 11 (cn x) (nI (cn y)))) (mB G) (gF G sz)) 0 0 (gF G sz) := by
  refine Met.ofW (cc := cX3_open) (maxL := 3) (ret := none) (by decide) rfl ?_
  intro p e s m args below meth c s₁ B hml hv
  obtain ⟨rfl, hsz, hW, hK⟩ := hv
  subst hsz
  have hx := B.exec
  have hb := B.bytes
  have hr := B.returns
  have hts := atoms_spec (ws := wsX3_open) B.pre
  have hown : s.vm.findClass RX3 = some m.cls := findClass_of_methodNamed B.named
  have hlocks := B.notSynchronized
  have hS : va_S (gF G s.heap.size) s.heap s.heap [] := va_S.rf
  have inX3 : ∀ w ∈ u_ws RX3 TX3 22, w ∈ wsX3_open := by decide +kernel
  have hl := lv_entry ([.ref (gA G 0), .int x, .int y]) (n := 3) (Nat.le_of_ble_eq_true rfl)
  rw [lg_entry_eq]
  generalize (lg_sl ([.ref (gA G 0), .int x, .int y]) ++ List.replicate (3 - (lg_sl ([.ref (gA G 0), .int x, .int y])).length) Slot.unset).toArray = ls at hl ⊢
  have hl : lv_has ls 3 [(0, .ref (gA G 0)), (1, .int x), (2, .int y)] := hl
  refine lv_aload_n hx hb dX3_open_0 rfl (lv_at hl 0 rfl) ?_
  refine lv_iconst (v := nI 0) hx hb dX3_open_1 (by decide) ?_
  refine va_put (D := gD G) (ci := 3) (v := .int (nI 0)) (ty := .int) (C := RX3) (T := TX3) (N := 22) hx hb hts inX3 tyX3 tyX3_ok nmX3 hown hK.1 hW (wl_D hK.2.1) hS 0 mw_0 rfl 0 (by decide) (hts (.fieldLink RX3 76 "MarkedTreesModel" "thrown" "I") (by decide +kernel)) (fun _ h9 => h9) rfl (by decide +kernel) rfl rfl (Nat.le_of_ble_eq_true rfl) dX3_open_2 (fun H locs hW _ hS => ?_)
  have hW : mW G (s1 S 0 0 (nI 0)) H := mp_0_0 hW
  obtain ⟨S_1, eS_1⟩ : ∃ z, z = s1 S 0 0 (nI 0) := ⟨_, rfl⟩
  rw [← eS_1] at hW
  have hT : S_1 = mT S := eS_1
  have hrcT : S_1.1 0 1 = nI rc := by rw [hT]; exact (mT_0 _ (by omega)).trans hrc
  refine lv_iload_n hx hb dX3_open_5 rfl (lv_at hl 1 rfl) ?_
  refine pv_i (va_runS (As := [.int x]) (rest := []) ⟨hx, hb, hml, hown, hts⟩ (k_X3_isPeer l x) (va_cwS 1 hts gX3_open_X3_isPeer rfl rfl rfl (by decide +kernel) ⟨Nat.le_of_ble_eq_true rfl, Nat.le_of_ble_eq_true rfl⟩) ⟨(fun _ _ _ _ h => h), fun U _ _ => ⟨rfl, trivial⟩⟩ rfl rfl hl.1 rfl (lv_room (Nat.le_of_ble_eq_true rfl)) dX3_open_6 ⟨Nat.le_of_ble_eq_true rfl, Nat.le_of_ble_eq_true rfl⟩) (fun r_2 hr_2 => ?_)
  have hr_2 : r_2 = bI (isP x) := hr_2
  subst hr_2
  refine bv_if_eq (b := isP x) (tgt := 21) hx hb dX3_open_9 (by decide) (fun c_9 => ?_) (fun c_9 => ?_)
  · refine lv_aload_n hx hb dX3_open_21 rfl (lv_at hl 0 rfl) ?_
    refine lv_iconst (v := nI 1) hx hb dX3_open_22 (by decide) ?_
    refine va_put (D := gD G) (ci := 3) (v := .int (nI 1)) (ty := .int) (C := RX3) (T := TX3) (N := 22) hx hb hts inX3 tyX3 tyX3_ok nmX3 hown hK.1 hW (wl_D hK.2.1) hS 0 mw_0 rfl 0 (by decide) (hts (.fieldLink RX3 76 "MarkedTreesModel" "thrown" "I") (by decide +kernel)) (fun _ h9 => h9) rfl (by decide +kernel) rfl rfl (Nat.le_of_ble_eq_true rfl) dX3_open_23 (fun H locs hW _ hS => ?_)
    have hW : mW G (s1 S_1 0 0 (nI 1)) H := mp_0_0 hW
    obtain ⟨S_3, eS_3⟩ : ∃ z, z = s1 S_1 0 0 (nI 1) := ⟨_, rfl⟩
    rw [← eS_3] at hW
    exact W.vret hx hb hr (fun t9 ht9 _ => ⟨⟨S_3, rfl, (by rw [mF_no (by unfold mcOpen; rw [if_neg (ne_true_of_eq_false c_9)]) (by decide)]; rw [eS_3, hT]; rfl), (show mW G S_3 t9.heap by rw [ht9]; exact hW)⟩, hS.F ht9⟩) hS.2.2 dX3_open_26
  · obtain ⟨i_4, hi_4, rfl⟩ := isP_iff.mp c_9
    have cn_i_4 : cn (nI i_4) = i_4 := cn_nI (by omega)
    refine lv_aload_n hx hb dX3_open_12 rfl (lv_at hl 0 rfl) ?_
    refine lv_iload_n hx hb dX3_open_13 rfl (lv_at hl 1 rfl) ?_
    refine lv_iload_n hx hb dX3_open_14 rfl (lv_at hl 2 rfl) ?_
    refine pv_i (va_runV (As := [.int (nI i_4), .int y]) (rest := []) ⟨hx, hb, hml, hown, hts⟩ (k_X3_hasRevision l G S_1 (rc := rc) hrcT (by omega) (by omega) (i := i_4) (by omega) y) (cwV 2 hts gX3_open_X3_hasRevision rfl rfl rfl (by decide +kernel) ⟨Nat.le_of_ble_eq_true rfl, Nat.le_of_ble_eq_true rfl⟩) ⟨mP_blind, m_recv hW hK, mP_at hW hK hS⟩ rfl rfl hl.1 rfl (lv_room (Nat.le_of_ble_eq_true rfl)) dX3_open_15 ⟨Nat.le_of_ble_eq_true rfl, Nat.le_of_ble_eq_true rfl⟩) (fun r_5 hr_5 => ?_)
    have hr_5 : r_5 = bI (mHas S_1 rc i_4 y) := hr_5
    subst hr_5
    refine bv_if_ne (b := mHas S_1 rc i_4 y) (tgt := 27) hx hb dX3_open_18 (by decide) (fun c_18 => ?_) (fun c_18 => ?_)
    · have c18 := c_18
      rw [hT] at c18
      obtain ⟨j_6, hj_6, rfl, hb9⟩ := mHas_of (by omega) c_18
      have cn_j_6 : cn (nI j_6) = j_6 := cn_nI (by omega)
      refine lv_aload_n hx hb dX3_open_27 rfl (lv_at hl 0 rfl) ?_
      refine lv_iload_n hx hb dX3_open_28 rfl (lv_at hl 2 rfl) ?_
      refine lv_bipush (v := nI 40) hx hb dX3_open_29 (by decide) ?_
      refine lv_iload_n hx hb dX3_open_31 rfl (lv_at hl 1 rfl) ?_
      refine nv_iadd hx hb dX3_open_32 ?_
      refine ev_v (va_runV (As := [.int (nI j_6), .int (nI (40 + i_4))]) (rest := []) ⟨hx, hb, hml, hown, hts⟩ (k_X3_copyTree l G S_1 H.size (f := j_6) (t := 40 + i_4) (by omega) (by omega)) (cwV 2 hts gX3_open_X3_copyTree rfl rfl rfl (by decide +kernel) ⟨Nat.le_of_ble_eq_true rfl, Nat.le_of_ble_eq_true rfl⟩) ⟨mQ_blind, m_recv hW hK, mQ_at hW hK hS⟩ rfl rfl hl.1 rfl (lv_room (Nat.le_of_ble_eq_true rfl)) dX3_open_33 ⟨Nat.le_of_ble_eq_true rfl, Nat.le_of_ble_eq_true rfl⟩) hS (fun S_7 t9 H locs ht9 hS_7 hW hS => ?_)
      have hW : mW G S_7 H := ht9 ▸ hW
      refine lv_aload_n hx hb dX3_open_36 rfl (lv_at hl 0 rfl) ?_
      refine va_get (D := gD G) (ci := 3) (v := .ref (gA G 11)) (C := RX3) (T := TX3) (N := 22) hx hb hts inX3 hown hK.1 hW 0 mw_0 rfl 13 (by decide) (hts (.fieldLink RX3 49 "MarkedTreesModel" "base" "[I") (by decide +kernel)) (fun _ h9 => h9) rfl dX3_open_37 ?_
      refine lv_iload_n hx hb dX3_open_40 rfl (lv_at hl 1 rfl) ?_
      refine lv_iload_n hx hb dX3_open_41 rfl (lv_at hl 2 rfl) ?_
      refine nv_iast hx hb hK.1 hW (wl_D hK.2.1) hS 11 0 mw_11 rfl (i := i_4) (by omega) (by decide) dX3_open_42 (fun H locs hW hS => ?_)
      have hW : mW G (s1 S_7 11 i_4 (nI j_6)) H := mp_11 hW
      obtain ⟨S_8, eS_8⟩ : ∃ z, z = s1 S_7 11 i_4 (nI j_6) := ⟨_, rfl⟩
      rw [← eS_8] at hW
      exact W.vret hx hb hr (fun t9 ht9 _ => ⟨⟨S_8, rfl, (by rw [mF_ok (by unfold mcOpen; (try simp only [cn_i_4, cn_j_6]); rw [if_pos (isP_nI hi_4), if_pos c18])]; (try simp only [cn_i_4, cn_j_6]); subst_vars; rfl), (show mW G S_8 t9.heap by rw [ht9]; exact hW)⟩, hS.F ht9⟩) hS.2.2 dX3_open_43
    · refine lv_aload_n hx hb dX3_open_21 rfl (lv_at hl 0 rfl) ?_
      refine lv_iconst (v := nI 1) hx hb dX3_open_22 (by decide) ?_
      refine va_put (D := gD G) (ci := 3) (v := .int (nI 1)) (ty := .int) (C := RX3) (T := TX3) (N := 22) hx hb hts inX3 tyX3 tyX3_ok nmX3 hown hK.1 hW (wl_D hK.2.1) hS 0 mw_0 rfl 0 (by decide) (hts (.fieldLink RX3 76 "MarkedTreesModel" "thrown" "I") (by decide +kernel)) (fun _ h9 => h9) rfl (by decide +kernel) rfl rfl (Nat.le_of_ble_eq_true rfl) dX3_open_23 (fun H locs hW _ hS => ?_)
      have hW : mW G (s1 S_1 0 0 (nI 1)) H := mp_0_0 hW
      obtain ⟨S_9, eS_9⟩ : ∃ z, z = s1 S_1 0 0 (nI 1) := ⟨_, rfl⟩
      rw [← eS_9] at hW
      exact W.vret hx hb hr (fun t9 ht9 _ => ⟨⟨S_9, rfl, (by rw [mF_no (by unfold mcOpen; (try simp only [cn_i_4]); rw [if_pos (isP_nI hi_4), if_neg (ne_true_of_eq_false (hT ▸ c_18))]) (by decide)]; rw [eS_9, hT]; rfl), (show mW G S_9 t9.heap by rw [ht9]; exact hW)⟩, hS.F ht9⟩) hS.2.2 dX3_open_26
