set_option maxHeartbeats 4000000 in
set_option maxRecDepth 100000 in
theorem k_X3_move (l : Launch) (G : GT) (S : SS) (sz : Nat) (x y z w : Int32) {rk : Nat → Nat} (hrk : ∀ i, i < 2 → x = nI i → 0 ≤ (mT S).1 11 i → ∀ j, 1 ≤ j → j < 16 → ti ((mT S).1 4 (40 + i)) j = true → ∃ p, p < 16 ∧ (mT S).1 5 (16 * (40 + i) + j) = nI p ∧ ti ((mT S).1 4 (40 + i)) p = true ∧ rk p < rk j) : Met l yX3_move wsX3_move ({ frames := 3, cells := 0, slots := 0, locals := 70 } : Room) (va_Pc [.ref (gA G 0), .int x, .int y, .int z, .int w] (fun U => U.heap.size = sz ∧ mP G S U)) (va_Qv (fun S' => S' = mF (mT S) (mcMove (mT S) rk x y z w) (s1 (s1 (mT S) 5 (16 * (40 + cn x) + cn y) (nI (cn z))) 6 (16 * (40 + cn x) + cn y) (nI (cn w)))) (mB G) (gF G sz)) 0 0 (gF G sz) := by
  refine Met.ofW (cc := cX3_move) (maxL := 6) (ret := none) (by decide) rfl ?_
  intro p e s m args below meth c s₁ B hml hv
  obtain ⟨rfl, hsz, hW, hK⟩ := hv
  subst hsz
  have hx := B.exec
  have hb := B.bytes
  have hr := B.returns
  have hts := atoms_spec (ws := wsX3_move) B.pre
  have hown : s.vm.findClass RX3 = some m.cls := findClass_of_methodNamed B.named
  have hlocks := B.notSynchronized
  have hS : va_S (gF G s.heap.size) s.heap s.heap [] := va_S.rf
  have inX3 : ∀ w ∈ u_ws RX3 TX3 22, w ∈ wsX3_move := by decide +kernel
  have hl := lv_entry ([.ref (gA G 0), .int x, .int y, .int z, .int w]) (n := 6) (Nat.le_of_ble_eq_true rfl)
  rw [lg_entry_eq]
  generalize (lg_sl ([.ref (gA G 0), .int x, .int y, .int z, .int w]) ++ List.replicate (6 - (lg_sl ([.ref (gA G 0), .int x, .int y, .int z, .int w])).length) Slot.unset).toArray = ls at hl ⊢
  have hl : lv_has ls 6 [(0, .ref (gA G 0)), (1, .int x), (2, .int y), (3, .int z), (4, .int w)] := hl
  refine lv_aload_n hx hb dX3_move_0 rfl (lv_at hl 0 rfl) ?_
  refine lv_iconst (v := nI 0) hx hb dX3_move_1 (by decide) ?_
  refine va_put (D := gD G) (ci := 3) (v := .int (nI 0)) (ty := .int) (C := RX3) (T := TX3) (N := 22) hx hb hts inX3 tyX3 tyX3_ok nmX3 hown hK.1 hW (wl_D hK.2.1) hS 0 mw_0 rfl 0 (by decide) (hts (.fieldLink RX3 76 "MarkedTreesModel" "thrown" "I") (by decide +kernel)) (fun _ h9 => h9) rfl (by decide +kernel) rfl rfl (Nat.le_of_ble_eq_true rfl) dX3_move_2 (fun H locs hW _ hS => ?_)
  have hW : mW G (s1 S 0 0 (nI 0)) H := mp_0_0 hW
  obtain ⟨S_1, eS_1⟩ : ∃ z, z = s1 S 0 0 (nI 0) := ⟨_, rfl⟩
  rw [← eS_1] at hW
  have hT : S_1 = mT S := eS_1
  subst hT
  refine lv_iload_n hx hb dX3_move_5 rfl (lv_at hl 1 rfl) ?_
  refine pv_i (va_runS (As := [.int x]) (rest := []) ⟨hx, hb, hml, hown, hts⟩ (k_X3_isPeer l x) (va_cwS 1 hts gX3_move_X3_isPeer rfl rfl rfl (by decide +kernel) ⟨Nat.le_of_ble_eq_true rfl, Nat.le_of_ble_eq_true rfl⟩) ⟨(fun _ _ _ _ h => h), fun U _ _ => ⟨rfl, trivial⟩⟩ rfl rfl hl.1 rfl (lv_room (Nat.le_of_ble_eq_true rfl)) dX3_move_6 ⟨Nat.le_of_ble_eq_true rfl, Nat.le_of_ble_eq_true rfl⟩) (fun r_2 hr_2 => ?_)
  have hr_2 : r_2 = bI (isP x) := hr_2
  subst hr_2
  refine bv_if_ne (b := isP x) (tgt := 18) hx hb dX3_move_9 (by decide) (fun c_9 => ?_) (fun c_9 => ?_)
  · obtain ⟨i_3, hi_3, rfl⟩ := isP_iff.mp c_9
    have cn_i_3 : cn (nI i_3) = i_3 := cn_nI (by omega)
    refine lv_aload_n hx hb dX3_move_18 rfl (lv_at hl 0 rfl) ?_
    refine va_get (D := gD G) (ci := 3) (v := .ref (gA G 11)) (C := RX3) (T := TX3) (N := 22) hx hb hts inX3 hown hK.1 hW 0 mw_0 rfl 13 (by decide) (hts (.fieldLink RX3 49 "MarkedTreesModel" "base" "[I") (by decide +kernel)) (fun _ h9 => h9) rfl dX3_move_19 ?_
    refine lv_iload_n hx hb dX3_move_22 rfl (lv_at hl 1 rfl) ?_
    refine nv_iald hx hb hK.1 hW 11 0 mw_11 rfl (i := i_3) (by omega) (by decide) dX3_move_23 ?_
    refine lv_if_ge (tgt := 33) hx hb dX3_move_24 (by decide) (fun c_24 => ?_) (fun c_24 => ?_)
    · refine lv_bipush (v := nI 40) hx hb dX3_move_33 (by decide) ?_
      refine lv_iload_n hx hb dX3_move_35 rfl (lv_at hl 1 rfl) ?_
      refine nv_iadd hx hb dX3_move_36 ?_
      refine lv_istore (lv' := [(5, .int (nI (40 + i_3))), (0, .ref (gA G 0)), (1, .int (nI i_3)), (2, .int y), (3, .int z), (4, .int w)]) hx hb dX3_move_37 hl (by decide) rfl (fun ls hl => ?_)
      refine lv_aload_n hx hb dX3_move_39 rfl (lv_at hl 1 rfl) ?_
      refine lv_iload hx hb dX3_move_40 (lv_at hl 0 rfl) ?_
      refine lv_iload_n hx hb dX3_move_42 rfl (lv_at hl 3 rfl) ?_
      refine pv_i (va_runV (As := [.int (nI (40 + i_3)), .int y]) (rest := []) ⟨hx, hb, hml, hown, hts⟩ (k_X3_isAlive l G (mT S) (t := 40 + i_3) (by omega) y) (cwV 2 hts gX3_move_X3_isAlive rfl rfl rfl (by decide +kernel) ⟨Nat.le_of_ble_eq_true rfl, Nat.le_of_ble_eq_true rfl⟩) ⟨mP_blind, m_recv hW hK, mP_at hW hK hS⟩ rfl rfl hl.1 rfl (lv_room (Nat.le_of_ble_eq_true rfl)) dX3_move_43 ⟨Nat.le_of_ble_eq_true rfl, Nat.le_of_ble_eq_true rfl⟩) (fun r_4 hr_4 => ?_)
      subst hr_4
      refine bv_if_eq (b := mAl (mT S) (40 + i_3) y) (tgt := 59) hx hb dX3_move_46 (by decide) (fun c_46 => ?_) (fun c_46 => ?_)
      · refine lv_aload_n hx hb dX3_move_59 rfl (lv_at hl 1 rfl) ?_
        refine lv_iconst (v := nI 1) hx hb dX3_move_60 (by decide) ?_
        refine va_put (D := gD G) (ci := 3) (v := .int (nI 1)) (ty := .int) (C := RX3) (T := TX3) (N := 22) hx hb hts inX3 tyX3 tyX3_ok nmX3 hown hK.1 hW (wl_D hK.2.1) hS 0 mw_0 rfl 0 (by decide) (hts (.fieldLink RX3 76 "MarkedTreesModel" "thrown" "I") (by decide +kernel)) (fun _ h9 => h9) rfl (by decide +kernel) rfl rfl (Nat.le_of_ble_eq_true rfl) dX3_move_61 (fun H locs hW _ hS => ?_)
        have hW : mW G (s1 (mT S) 0 0 (nI 1)) H := mp_0_0 hW
        obtain ⟨S_5, eS_5⟩ : ∃ z, z = s1 (mT S) 0 0 (nI 1) := ⟨_, rfl⟩
        rw [← eS_5] at hW
        exact W.vret hx hb hr (fun t9 ht9 _ => ⟨⟨S_5, rfl, (by rw [mF_no (by unfold mcMove; (try simp only [cn_i_3]); rw [if_pos (isP_nI hi_3), if_pos c_24, if_neg (ne_true_of_eq_false c_46)]) (by decide)]; exact eS_5), (show mW G S_5 t9.heap by rw [ht9]; exact hW)⟩, hS.F ht9⟩) hS.2.2 dX3_move_64
      · obtain ⟨n_6, hn_6, rfl⟩ := mAl_of c_46
        have cn_n_6 : cn (nI n_6) = n_6 := cn_nI (by omega)
        have ca_n_6 := c_46
        rw [mAl_nI _ _ hn_6] at ca_n_6
        refine lv_aload_n hx hb dX3_move_49 rfl (lv_at hl 1 rfl) ?_
        refine lv_iload hx hb dX3_move_50 (lv_at hl 0 rfl) ?_
        refine lv_iload_n hx hb dX3_move_52 rfl (lv_at hl 4 rfl) ?_
        refine pv_i (va_runV (As := [.int (nI (40 + i_3)), .int z]) (rest := []) ⟨hx, hb, hml, hown, hts⟩ (k_X3_isAlive l G (mT S) (t := 40 + i_3) (by omega) z) (cwV 2 hts gX3_move_X3_isAlive rfl rfl rfl (by decide +kernel) ⟨Nat.le_of_ble_eq_true rfl, Nat.le_of_ble_eq_true rfl⟩) ⟨mP_blind, m_recv hW hK, mP_at hW hK hS⟩ rfl rfl hl.1 rfl (lv_room (Nat.le_of_ble_eq_true rfl)) dX3_move_53 ⟨Nat.le_of_ble_eq_true rfl, Nat.le_of_ble_eq_true rfl⟩) (fun r_7 hr_7 => ?_)
        subst hr_7
        refine bv_if_ne (b := mAl (mT S) (40 + i_3) z) (tgt := 65) hx hb dX3_move_56 (by decide) (fun c_56 => ?_) (fun c_56 => ?_)
        · obtain ⟨n_8, hn_8, rfl⟩ := mAl_of c_56
          have cn_n_8 : cn (nI n_8) = n_8 := cn_nI (by omega)
          have ca_n_8 := c_56
          rw [mAl_nI _ _ hn_8] at ca_n_8
          refine lv_iload_n hx hb dX3_move_65 rfl (lv_at hl 3 rfl) ?_
          refine lv_if_eq (tgt := 113) hx hb dX3_move_66 (by decide) (fun c_66 => ?_) (fun c_66 => ?_)
          · refine lv_aload_n hx hb dX3_move_113 rfl (lv_at hl 1 rfl) ?_
            refine lv_iconst (v := nI 2) hx hb dX3_move_114 (by decide) ?_
            refine va_put (D := gD G) (ci := 3) (v := .int (nI 2)) (ty := .int) (C := RX3) (T := TX3) (N := 22) hx hb hts inX3 tyX3 tyX3_ok nmX3 hown hK.1 hW (wl_D hK.2.1) hS 0 mw_0 rfl 0 (by decide) (hts (.fieldLink RX3 76 "MarkedTreesModel" "thrown" "I") (by decide +kernel)) (fun _ h9 => h9) rfl (by decide +kernel) rfl rfl (Nat.le_of_ble_eq_true rfl) dX3_move_115 (fun H locs hW _ hS => ?_)
            have hW : mW G (s1 (mT S) 0 0 (nI 2)) H := mp_0_0 hW
            obtain ⟨S_9, eS_9⟩ : ∃ z, z = s1 (mT S) 0 0 (nI 2) := ⟨_, rfl⟩
            rw [← eS_9] at hW
            exact W.vret hx hb hr (fun t9 ht9 _ => ⟨⟨S_9, rfl, (by rw [mF_no (by unfold mcMove; (try simp only [cn_i_3, cn_n_6, cn_n_8]); rw [if_pos (isP_nI hi_3), if_pos c_24, if_pos c_46, if_pos c_56, if_pos c_66]) (by decide)]; exact eS_9), (show mW G S_9 t9.heap by rw [ht9]; exact hW)⟩, hS.F ht9⟩) hS.2.2 dX3_move_118
          · refine lv_aload_n hx hb dX3_move_69 rfl (lv_at hl 1 rfl) ?_
            refine va_get (D := gD G) (ci := 3) (v := .ref (gA G 2)) (C := RX3) (T := TX3) (N := 22) hx hb hts inX3 hown hK.1 hW 0 mw_0 rfl 4 (by decide) (hts (.fieldLink RX3 20 "MarkedTreesModel" "directory" "[Z") (by decide +kernel)) (fun _ h9 => h9) rfl dX3_move_70 ?_
            refine lv_iload_n hx hb dX3_move_73 rfl (lv_at hl 4 rfl) ?_
            refine nv_zald hx hb hK.1 hW 2 2 mw_2 rfl (i := n_8) (by omega) (by decide) dX3_move_74 ?_
            refine lv_if_eq (tgt := 113) hx hb dX3_move_75 (by decide) (fun c_75 => ?_) (fun c_75 => ?_)
            · refine lv_aload_n hx hb dX3_move_113 rfl (lv_at hl 1 rfl) ?_
              refine lv_iconst (v := nI 2) hx hb dX3_move_114 (by decide) ?_
              refine va_put (D := gD G) (ci := 3) (v := .int (nI 2)) (ty := .int) (C := RX3) (T := TX3) (N := 22) hx hb hts inX3 tyX3 tyX3_ok nmX3 hown hK.1 hW (wl_D hK.2.1) hS 0 mw_0 rfl 0 (by decide) (hts (.fieldLink RX3 76 "MarkedTreesModel" "thrown" "I") (by decide +kernel)) (fun _ h9 => h9) rfl (by decide +kernel) rfl rfl (Nat.le_of_ble_eq_true rfl) dX3_move_115 (fun H locs hW _ hS => ?_)
              have hW : mW G (s1 (mT S) 0 0 (nI 2)) H := mp_0_0 hW
              obtain ⟨S_10, eS_10⟩ : ∃ z, z = s1 (mT S) 0 0 (nI 2) := ⟨_, rfl⟩
              rw [← eS_10] at hW
              exact W.vret hx hb hr (fun t9 ht9 _ => ⟨⟨S_10, rfl, (by rw [mF_no (by unfold mcMove; (try simp only [cn_i_3, cn_n_6, cn_n_8]); rw [if_pos (isP_nI hi_3), if_pos c_24, if_pos c_46, if_pos c_56, if_neg c_66, if_pos c_75]) (by decide)]; exact eS_10), (show mW G S_10 t9.heap by rw [ht9]; exact hW)⟩, hS.F ht9⟩) hS.2.2 dX3_move_118
            · refine lv_iload hx hb dX3_move_78 (lv_at hl 5 rfl) ?_
              refine lv_iconst (v := nI 0) hx hb dX3_move_80 (by decide) ?_
              refine lv_bipush (v := nI 9) hx hb dX3_move_81 (by decide) ?_
              refine pv_i (va_runS (As := [.int w, .int (nI 0), .int (nI 9)]) (rest := []) ⟨hx, hb, hml, hown, hts⟩ (k_X3_in l w (nI 0) (nI 9)) (va_cwS 3 hts gX3_move_X3_in rfl rfl rfl (by decide +kernel) ⟨Nat.le_of_ble_eq_true rfl, Nat.le_of_ble_eq_true rfl⟩) ⟨(fun _ _ _ _ h => h), fun U _ _ => ⟨rfl, trivial⟩⟩ rfl rfl hl.1 rfl (lv_room (Nat.le_of_ble_eq_true rfl)) dX3_move_83 ⟨Nat.le_of_ble_eq_true rfl, Nat.le_of_ble_eq_true rfl⟩) (fun r_11 hr_11 => ?_)
              have hr_11 : r_11 = bI (inM w (nI 0) (nI 9)) := hr_11
              subst hr_11
              refine bv_if_eq (b := inM w (nI 0) (nI 9)) (tgt := 113) hx hb dX3_move_86 (by decide) (fun c_86 => ?_) (fun c_86 => ?_)
              · have d_86 : inB w 10 = false := (inM_B w (n := 9) (by decide)).symm.trans c_86
                refine lv_aload_n hx hb dX3_move_113 rfl (lv_at hl 1 rfl) ?_
                refine lv_iconst (v := nI 2) hx hb dX3_move_114 (by decide) ?_
                refine va_put (D := gD G) (ci := 3) (v := .int (nI 2)) (ty := .int) (C := RX3) (T := TX3) (N := 22) hx hb hts inX3 tyX3 tyX3_ok nmX3 hown hK.1 hW (wl_D hK.2.1) hS 0 mw_0 rfl 0 (by decide) (hts (.fieldLink RX3 76 "MarkedTreesModel" "thrown" "I") (by decide +kernel)) (fun _ h9 => h9) rfl (by decide +kernel) rfl rfl (Nat.le_of_ble_eq_true rfl) dX3_move_115 (fun H locs hW _ hS => ?_)
                have hW : mW G (s1 (mT S) 0 0 (nI 2)) H := mp_0_0 hW
                obtain ⟨S_12, eS_12⟩ : ∃ z, z = s1 (mT S) 0 0 (nI 2) := ⟨_, rfl⟩
                rw [← eS_12] at hW
                exact W.vret hx hb hr (fun t9 ht9 _ => ⟨⟨S_12, rfl, (by rw [mF_no (by unfold mcMove; (try simp only [cn_i_3, cn_n_6, cn_n_8]); rw [if_pos (isP_nI hi_3), if_pos c_24, if_pos c_46, if_pos c_56, if_neg c_66, if_neg c_75, if_neg (ne_true_of_eq_false d_86)]) (by decide)]; exact eS_12), (show mW G S_12 t9.heap by rw [ht9]; exact hW)⟩, hS.F ht9⟩) hS.2.2 dX3_move_118
              · have d_86 : inB w 10 = true := (inM_B w (n := 9) (by decide)).symm.trans c_86
                obtain ⟨n_13, hn_13, rfl⟩ := (inB_iff (by omega)).mp d_86
                have cn_n_13 : cn (nI n_13) = n_13 := cn_nI (by omega)
                refine lv_aload_n hx hb dX3_move_89 rfl (lv_at hl 1 rfl) ?_
                refine lv_iload hx hb dX3_move_90 (lv_at hl 0 rfl) ?_
                refine lv_iload_n hx hb dX3_move_92 rfl (lv_at hl 4 rfl) ?_
                refine lv_iload hx hb dX3_move_93 (lv_at hl 5 rfl) ?_
                refine lv_iload_n hx hb dX3_move_95 rfl (lv_at hl 3 rfl) ?_
                refine pv_i (va_runV (As := [.int (nI (40 + i_3)), .int (nI n_8), .int (nI n_13), .int (nI n_6)]) (rest := []) ⟨hx, hb, hml, hown, hts⟩ (k_X3_nodeAt l G (mT S) (t := 40 + i_3) (by omega) (nI n_8) (nI n_13) (nI n_6)) (cwV 4 hts gX3_move_X3_nodeAt rfl rfl rfl (by decide +kernel) ⟨Nat.le_of_ble_eq_true rfl, Nat.le_of_ble_eq_true rfl⟩) ⟨mP_blind, m_recv hW hK, mP_at hW hK hS⟩ rfl rfl hl.1 rfl (lv_room (Nat.le_of_ble_eq_true rfl)) dX3_move_96 ⟨Nat.le_of_ble_eq_true rfl, Nat.le_of_ble_eq_true rfl⟩) (fun r_14 hr_14 => ?_)
                have hr_14 : r_14 = naG (mT S) (40 + i_3) (nI n_8) (nI n_13) (nI n_6) 15 (-1) := hr_14
                subst hr_14
                refine lv_if_ge (tgt := 113) hx hb dX3_move_99 (by decide) (fun c_99 => ?_) (fun c_99 => ?_)
                · refine lv_aload_n hx hb dX3_move_113 rfl (lv_at hl 1 rfl) ?_
                  refine lv_iconst (v := nI 2) hx hb dX3_move_114 (by decide) ?_
                  refine va_put (D := gD G) (ci := 3) (v := .int (nI 2)) (ty := .int) (C := RX3) (T := TX3) (N := 22) hx hb hts inX3 tyX3 tyX3_ok nmX3 hown hK.1 hW (wl_D hK.2.1) hS 0 mw_0 rfl 0 (by decide) (hts (.fieldLink RX3 76 "MarkedTreesModel" "thrown" "I") (by decide +kernel)) (fun _ h9 => h9) rfl (by decide +kernel) rfl rfl (Nat.le_of_ble_eq_true rfl) dX3_move_115 (fun H locs hW _ hS => ?_)
                  have hW : mW G (s1 (mT S) 0 0 (nI 2)) H := mp_0_0 hW
                  obtain ⟨S_15, eS_15⟩ : ∃ z, z = s1 (mT S) 0 0 (nI 2) := ⟨_, rfl⟩
                  rw [← eS_15] at hW
                  exact W.vret hx hb hr (fun t9 ht9 _ => ⟨⟨S_15, rfl, (by rw [mF_no (by unfold mcMove; (try simp only [cn_i_3, cn_n_6, cn_n_8, cn_n_13]); rw [if_pos (isP_nI hi_3), if_pos c_24, if_pos c_46, if_pos c_56, if_neg c_66, if_neg c_75, if_pos d_86, if_pos c_99]) (by decide)]; exact eS_15), (show mW G S_15 t9.heap by rw [ht9]; exact hW)⟩, hS.F ht9⟩) hS.2.2 dX3_move_118
                · refine lv_aload_n hx hb dX3_move_102 rfl (lv_at hl 1 rfl) ?_
                  refine lv_iload hx hb dX3_move_103 (lv_at hl 0 rfl) ?_
                  refine lv_iload_n hx hb dX3_move_105 rfl (lv_at hl 4 rfl) ?_
                  refine lv_iload_n hx hb dX3_move_106 rfl (lv_at hl 3 rfl) ?_
                  refine pv_i (va_runV (As := [.int (nI (40 + i_3)), .int (nI n_8), .int (nI n_6)]) (rest := []) ⟨hx, hb, hml, hown, hts⟩ (k_X3_within l G (mT S) (t := 40 + i_3) (by omega) (rk := rk) (hrk i_3 hi_3 rfl c_24) (j0 := n_8) (by omega) ca_n_8 (nI n_6)) (cwV 3 hts gX3_move_X3_within rfl rfl rfl (by decide +kernel) ⟨Nat.le_of_ble_eq_true rfl, Nat.le_of_ble_eq_true rfl⟩) ⟨mP_blind, m_recv hW hK, mP_at hW hK hS⟩ rfl rfl hl.1 rfl (lv_room (Nat.le_of_ble_eq_true rfl)) dX3_move_107 ⟨Nat.le_of_ble_eq_true rfl, Nat.le_of_ble_eq_true rfl⟩) (fun r_16 hr_16 => ?_)
                  have hr_16 : r_16 = bI (wiG (mT S) (40 + i_3) (nI n_6) (rk n_8) n_8) := hr_16
                  subst hr_16
                  refine bv_if_eq (b := wiG (mT S) (40 + i_3) (nI n_6) (rk n_8) n_8) (tgt := 119) hx hb dX3_move_110 (by decide) (fun c_110 => ?_) (fun c_110 => ?_)
                  · refine lv_aload_n hx hb dX3_move_119 rfl (lv_at hl 1 rfl) ?_
                    refine va_get (D := gD G) (ci := 3) (v := .ref (gA G 5)) (C := RX3) (T := TX3) (N := 22) hx hb hts inX3 hown hK.1 hW 0 mw_0 rfl 7 (by decide) (hts (.fieldLink RX3 31 "MarkedTreesModel" "parent" "[I") (by decide +kernel)) (fun _ h9 => h9) rfl dX3_move_120 ?_
                    refine lv_bipush (v := nI 16) hx hb dX3_move_123 (by decide) ?_
                    refine lv_iload hx hb dX3_move_125 (lv_at hl 0 rfl) ?_
                    refine nv_imul hx hb dX3_move_127 ?_
                    refine lv_iload_n hx hb dX3_move_128 rfl (lv_at hl 3 rfl) ?_
                    refine nv_iadd hx hb dX3_move_129 ?_
                    refine lv_iload_n hx hb dX3_move_130 rfl (lv_at hl 4 rfl) ?_
                    refine nv_iast hx hb hK.1 hW (wl_D hK.2.1) hS 5 0 mw_5 rfl (i := (16 * (40 + i_3)) + n_6) (by omega) (by decide) dX3_move_131 (fun H locs hW hS => ?_)
                    have hW : mW G (s1 (mT S) 5 ((16 * (40 + i_3)) + n_6) (nI n_8)) H := mp_5 hW
                    obtain ⟨S_17, eS_17⟩ : ∃ z, z = s1 (mT S) 5 ((16 * (40 + i_3)) + n_6) (nI n_8) := ⟨_, rfl⟩
                    rw [← eS_17] at hW
                    refine lv_aload_n hx hb dX3_move_132 rfl (lv_at hl 1 rfl) ?_
                    refine va_get (D := gD G) (ci := 3) (v := .ref (gA G 6)) (C := RX3) (T := TX3) (N := 22) hx hb hts inX3 hown hK.1 hW 0 mw_0 rfl 8 (by decide) (hts (.fieldLink RX3 34 "MarkedTreesModel" "name" "[I") (by decide +kernel)) (fun _ h9 => h9) rfl dX3_move_133 ?_
                    refine lv_bipush (v := nI 16) hx hb dX3_move_136 (by decide) ?_
                    refine lv_iload hx hb dX3_move_138 (lv_at hl 0 rfl) ?_
                    refine nv_imul hx hb dX3_move_140 ?_
                    refine lv_iload_n hx hb dX3_move_141 rfl (lv_at hl 3 rfl) ?_
                    refine nv_iadd hx hb dX3_move_142 ?_
                    refine lv_iload hx hb dX3_move_143 (lv_at hl 5 rfl) ?_
                    refine nv_iast hx hb hK.1 hW (wl_D hK.2.1) hS 6 0 mw_6 rfl (i := (16 * (40 + i_3)) + n_6) (by omega) (by decide) dX3_move_145 (fun H locs hW hS => ?_)
                    have hW : mW G (s1 S_17 6 ((16 * (40 + i_3)) + n_6) (nI n_13)) H := mp_6 hW
                    obtain ⟨S_18, eS_18⟩ : ∃ z, z = s1 S_17 6 ((16 * (40 + i_3)) + n_6) (nI n_13) := ⟨_, rfl⟩
                    rw [← eS_18] at hW
                    exact W.vret hx hb hr (fun t9 ht9 _ => ⟨⟨S_18, rfl, (by rw [mF_ok (by unfold mcMove; (try simp only [cn_i_3, cn_n_6, cn_n_8, cn_n_13]); rw [if_pos (isP_nI hi_3), if_pos c_24, if_pos c_46, if_pos c_56, if_neg c_66, if_neg c_75, if_pos d_86, if_neg c_99, if_neg (ne_true_of_eq_false c_110)])]; (try simp only [cn_i_3, cn_n_6, cn_n_8, cn_n_13]); subst_vars; rfl), (show mW G S_18 t9.heap by rw [ht9]; exact hW)⟩, hS.F ht9⟩) hS.2.2 dX3_move_146
                  · refine lv_aload_n hx hb dX3_move_113 rfl (lv_at hl 1 rfl) ?_
                    refine lv_iconst (v := nI 2) hx hb dX3_move_114 (by decide) ?_
                    refine va_put (D := gD G) (ci := 3) (v := .int (nI 2)) (ty := .int) (C := RX3) (T := TX3) (N := 22) hx hb hts inX3 tyX3 tyX3_ok nmX3 hown hK.1 hW (wl_D hK.2.1) hS 0 mw_0 rfl 0 (by decide) (hts (.fieldLink RX3 76 "MarkedTreesModel" "thrown" "I") (by decide +kernel)) (fun _ h9 => h9) rfl (by decide +kernel) rfl rfl (Nat.le_of_ble_eq_true rfl) dX3_move_115 (fun H locs hW _ hS => ?_)
                    have hW : mW G (s1 (mT S) 0 0 (nI 2)) H := mp_0_0 hW
                    obtain ⟨S_19, eS_19⟩ : ∃ z, z = s1 (mT S) 0 0 (nI 2) := ⟨_, rfl⟩
                    rw [← eS_19] at hW
                    exact W.vret hx hb hr (fun t9 ht9 _ => ⟨⟨S_19, rfl, (by rw [mF_no (by unfold mcMove; (try simp only [cn_i_3, cn_n_6, cn_n_8, cn_n_13]); rw [if_pos (isP_nI hi_3), if_pos c_24, if_pos c_46, if_pos c_56, if_neg c_66, if_neg c_75, if_pos d_86, if_neg c_99, if_pos c_110]) (by decide)]; exact eS_19), (show mW G S_19 t9.heap by rw [ht9]; exact hW)⟩, hS.F ht9⟩) hS.2.2 dX3_move_118
        · refine lv_aload_n hx hb dX3_move_59 rfl (lv_at hl 1 rfl) ?_
          refine lv_iconst (v := nI 1) hx hb dX3_move_60 (by decide) ?_
          refine va_put (D := gD G) (ci := 3) (v := .int (nI 1)) (ty := .int) (C := RX3) (T := TX3) (N := 22) hx hb hts inX3 tyX3 tyX3_ok nmX3 hown hK.1 hW (wl_D hK.2.1) hS 0 mw_0 rfl 0 (by decide) (hts (.fieldLink RX3 76 "MarkedTreesModel" "thrown" "I") (by decide +kernel)) (fun _ h9 => h9) rfl (by decide +kernel) rfl rfl (Nat.le_of_ble_eq_true rfl) dX3_move_61 (fun H locs hW _ hS => ?_)
          have hW : mW G (s1 (mT S) 0 0 (nI 1)) H := mp_0_0 hW
          obtain ⟨S_20, eS_20⟩ : ∃ z, z = s1 (mT S) 0 0 (nI 1) := ⟨_, rfl⟩
          rw [← eS_20] at hW
          exact W.vret hx hb hr (fun t9 ht9 _ => ⟨⟨S_20, rfl, (by rw [mF_no (by unfold mcMove; (try simp only [cn_i_3, cn_n_6]); rw [if_pos (isP_nI hi_3), if_pos c_24, if_pos c_46, if_neg (ne_true_of_eq_false c_56)]) (by decide)]; exact eS_20), (show mW G S_20 t9.heap by rw [ht9]; exact hW)⟩, hS.F ht9⟩) hS.2.2 dX3_move_64
    · refine lv_aload_n hx hb dX3_move_27 rfl (lv_at hl 0 rfl) ?_
      refine lv_iconst (v := nI 3) hx hb dX3_move_28 (by decide) ?_
      refine va_put (D := gD G) (ci := 3) (v := .int (nI 3)) (ty := .int) (C := RX3) (T := TX3) (N := 22) hx hb hts inX3 tyX3 tyX3_ok nmX3 hown hK.1 hW (wl_D hK.2.1) hS 0 mw_0 rfl 0 (by decide) (hts (.fieldLink RX3 76 "MarkedTreesModel" "thrown" "I") (by decide +kernel)) (fun _ h9 => h9) rfl (by decide +kernel) rfl rfl (Nat.le_of_ble_eq_true rfl) dX3_move_29 (fun H locs hW _ hS => ?_)
      have hW : mW G (s1 (mT S) 0 0 (nI 3)) H := mp_0_0 hW
      obtain ⟨S_21, eS_21⟩ : ∃ z, z = s1 (mT S) 0 0 (nI 3) := ⟨_, rfl⟩
      rw [← eS_21] at hW
      exact W.vret hx hb hr (fun t9 ht9 _ => ⟨⟨S_21, rfl, (by rw [mF_no (by unfold mcMove; (try simp only [cn_i_3]); rw [if_pos (isP_nI hi_3), if_neg c_24]) (by decide)]; exact eS_21), (show mW G S_21 t9.heap by rw [ht9]; exact hW)⟩, hS.F ht9⟩) hS.2.2 dX3_move_32
  · refine lv_aload_n hx hb dX3_move_12 rfl (lv_at hl 0 rfl) ?_
    refine lv_iconst (v := nI 1) hx hb dX3_move_13 (by decide) ?_
    refine va_put (D := gD G) (ci := 3) (v := .int (nI 1)) (ty := .int) (C := RX3) (T := TX3) (N := 22) hx hb hts inX3 tyX3 tyX3_ok nmX3 hown hK.1 hW (wl_D hK.2.1) hS 0 mw_0 rfl 0 (by decide) (hts (.fieldLink RX3 76 "MarkedTreesModel" "thrown" "I") (by decide +kernel)) (fun _ h9 => h9) rfl (by decide +kernel) rfl rfl (Nat.le_of_ble_eq_true rfl) dX3_move_14 (fun H locs hW _ hS => ?_)
    have hW : mW G (s1 (mT S) 0 0 (nI 1)) H := mp_0_0 hW
    obtain ⟨S_22, eS_22⟩ : ∃ z, z = s1 (mT S) 0 0 (nI 1) := ⟨_, rfl⟩
    rw [← eS_22] at hW
    exact W.vret hx hb hr (fun t9 ht9 _ => ⟨⟨S_22, rfl, (by rw [mF_no (by unfold mcMove; rw [if_neg (ne_true_of_eq_false c_9)]) (by decide)]; exact eS_22), (show mW G S_22 t9.heap by rw [ht9]; exact hW)⟩, hS.F ht9⟩) hS.2.2 dX3_move_17

set_option maxHeartbeats 4000000 in
set_option maxRecDepth 100000 in
theorem k_X3_write (l : Launch) (G : GT) (S : SS) (sz : Nat) (x y z v : Int32) : Met l yX3_write wsX3_write ({ frames := 2, cells := 0, slots := 0, locals := 44 } : Room) (va_Pc [.ref (gA G 0), .int x, .int y, .int z, .int v] (fun U => U.heap.size = sz ∧ mP G S U)) (va_Qv (fun S' => S' = mF (mT S) (mcWrite (mT S) x y z) (mdWrite (mT S) (cn x) (cn y) z v)) (mB G) (gF G sz)) 0 0 (gF G sz) := by
  refine Met.ofW (cc := cX3_write) (maxL := 6) (ret := none) (by decide) rfl ?_
  intro p e s m args below meth c s₁ B hml hv
  obtain ⟨rfl, hsz, hW, hK⟩ := hv
  subst hsz
  have hx := B.exec
  have hb := B.bytes
  have hr := B.returns
  have hts := atoms_spec (ws := wsX3_write) B.pre
  have hown : s.vm.findClass RX3 = some m.cls := findClass_of_methodNamed B.named
  have hlocks := B.notSynchronized
  have hS : va_S (gF G s.heap.size) s.heap s.heap [] := va_S.rf
  have inX3 : ∀ w ∈ u_ws RX3 TX3 22, w ∈ wsX3_write := by decide +kernel
  have hl := lv_entry ([.ref (gA G 0), .int x, .int y, .int z, .int v]) (n := 6) (Nat.le_of_ble_eq_true rfl)
  rw [lg_entry_eq]
  generalize (lg_sl ([.ref (gA G 0), .int x, .int y, .int z, .int v]) ++ List.replicate (6 - (lg_sl ([.ref (gA G 0), .int x, .int y, .int z, .int v])).length) Slot.unset).toArray = ls at hl ⊢
  have hl : lv_has ls 6 [(0, .ref (gA G 0)), (1, .int x), (2, .int y), (3, .int z), (4, .int v)] := hl
  refine lv_aload_n hx hb dX3_write_0 rfl (lv_at hl 0 rfl) ?_
  refine lv_iconst (v := nI 0) hx hb dX3_write_1 (by decide) ?_
  refine va_put (D := gD G) (ci := 3) (v := .int (nI 0)) (ty := .int) (C := RX3) (T := TX3) (N := 22) hx hb hts inX3 tyX3 tyX3_ok nmX3 hown hK.1 hW (wl_D hK.2.1) hS 0 mw_0 rfl 0 (by decide) (hts (.fieldLink RX3 76 "MarkedTreesModel" "thrown" "I") (by decide +kernel)) (fun _ h9 => h9) rfl (by decide +kernel) rfl rfl (Nat.le_of_ble_eq_true rfl) dX3_write_2 (fun H locs hW _ hS => ?_)
  have hW : mW G (s1 S 0 0 (nI 0)) H := mp_0_0 hW
  obtain ⟨S_1, eS_1⟩ : ∃ z, z = s1 S 0 0 (nI 0) := ⟨_, rfl⟩
  rw [← eS_1] at hW
  have hT : S_1 = mT S := eS_1
  subst hT
  refine lv_iload_n hx hb dX3_write_5 rfl (lv_at hl 1 rfl) ?_
  refine pv_i (va_runS (As := [.int x]) (rest := []) ⟨hx, hb, hml, hown, hts⟩ (k_X3_isPeer l x) (va_cwS 1 hts gX3_write_X3_isPeer rfl rfl rfl (by decide +kernel) ⟨Nat.le_of_ble_eq_true rfl, Nat.le_of_ble_eq_true rfl⟩) ⟨(fun _ _ _ _ h => h), fun U _ _ => ⟨rfl, trivial⟩⟩ rfl rfl hl.1 rfl (lv_room (Nat.le_of_ble_eq_true rfl)) dX3_write_6 ⟨Nat.le_of_ble_eq_true rfl, Nat.le_of_ble_eq_true rfl⟩) (fun r_2 hr_2 => ?_)
  have hr_2 : r_2 = bI (isP x) := hr_2
  subst hr_2
  refine bv_if_ne (b := isP x) (tgt := 18) hx hb dX3_write_9 (by decide) (fun c_9 => ?_) (fun c_9 => ?_)
  · obtain ⟨i_3, hi_3, rfl⟩ := isP_iff.mp c_9
    have cn_i_3 : cn (nI i_3) = i_3 := cn_nI (by omega)
    refine lv_aload_n hx hb dX3_write_18 rfl (lv_at hl 0 rfl) ?_
    refine va_get (D := gD G) (ci := 3) (v := .ref (gA G 11)) (C := RX3) (T := TX3) (N := 22) hx hb hts inX3 hown hK.1 hW 0 mw_0 rfl 13 (by decide) (hts (.fieldLink RX3 49 "MarkedTreesModel" "base" "[I") (by decide +kernel)) (fun _ h9 => h9) rfl dX3_write_19 ?_
    refine lv_iload_n hx hb dX3_write_22 rfl (lv_at hl 1 rfl) ?_
    refine nv_iald hx hb hK.1 hW 11 0 mw_11 rfl (i := i_3) (by omega) (by decide) dX3_write_23 ?_
    refine lv_if_ge (tgt := 33) hx hb dX3_write_24 (by decide) (fun c_24 => ?_) (fun c_24 => ?_)
    · refine lv_bipush (v := nI 40) hx hb dX3_write_33 (by decide) ?_
      refine lv_iload_n hx hb dX3_write_35 rfl (lv_at hl 1 rfl) ?_
      refine nv_iadd hx hb dX3_write_36 ?_
      refine lv_istore (lv' := [(5, .int (nI (40 + i_3))), (0, .ref (gA G 0)), (1, .int (nI i_3)), (2, .int y), (3, .int z), (4, .int v)]) hx hb dX3_write_37 hl (by decide) rfl (fun ls hl => ?_)
      refine lv_aload_n hx hb dX3_write_39 rfl (lv_at hl 1 rfl) ?_
      refine lv_iload hx hb dX3_write_40 (lv_at hl 0 rfl) ?_
      refine lv_iload_n hx hb dX3_write_42 rfl (lv_at hl 3 rfl) ?_
      refine pv_i (va_runV (As := [.int (nI (40 + i_3)), .int y]) (rest := []) ⟨hx, hb, hml, hown, hts⟩ (k_X3_isAlive l G (mT S) (t := 40 + i_3) (by omega) y) (cwV 2 hts gX3_write_X3_isAlive rfl rfl rfl (by decide +kernel) ⟨Nat.le_of_ble_eq_true rfl, Nat.le_of_ble_eq_true rfl⟩) ⟨mP_blind, m_recv hW hK, mP_at hW hK hS⟩ rfl rfl hl.1 rfl (lv_room (Nat.le_of_ble_eq_true rfl)) dX3_write_43 ⟨Nat.le_of_ble_eq_true rfl, Nat.le_of_ble_eq_true rfl⟩) (fun r_4 hr_4 => ?_)
      subst hr_4
      refine bv_if_ne (b := mAl (mT S) (40 + i_3) y) (tgt := 55) hx hb dX3_write_46 (by decide) (fun c_46 => ?_) (fun c_46 => ?_)
      · obtain ⟨n_5, hn_5, rfl⟩ := mAl_of c_46
        have cn_n_5 : cn (nI n_5) = n_5 := cn_nI (by omega)
        have ca_n_5 := c_46
        rw [mAl_nI _ _ hn_5] at ca_n_5
        refine lv_iload_n hx hb dX3_write_55 rfl (lv_at hl 4 rfl) ?_
        refine lv_iconst (v := nI 1) hx hb dX3_write_56 (by decide) ?_
        refine lv_icmp_eq (tgt := 65) hx hb dX3_write_57 (by decide) (fun c_57 => ?_) (fun c_57 => ?_)
        · refine lv_iload_n hx hb dX3_write_65 rfl (lv_at hl 3 rfl) ?_
          refine lv_if_eq (tgt := 83) hx hb dX3_write_66 (by decide) (fun c_66 => ?_) (fun c_66 => ?_)
          · refine lv_aload_n hx hb dX3_write_83 rfl (lv_at hl 1 rfl) ?_
            refine lv_iconst (v := nI 2) hx hb dX3_write_84 (by decide) ?_
            refine va_put (D := gD G) (ci := 3) (v := .int (nI 2)) (ty := .int) (C := RX3) (T := TX3) (N := 22) hx hb hts inX3 tyX3 tyX3_ok nmX3 hown hK.1 hW (wl_D hK.2.1) hS 0 mw_0 rfl 0 (by decide) (hts (.fieldLink RX3 76 "MarkedTreesModel" "thrown" "I") (by decide +kernel)) (fun _ h9 => h9) rfl (by decide +kernel) rfl rfl (Nat.le_of_ble_eq_true rfl) dX3_write_85 (fun H locs hW _ hS => ?_)
            have hW : mW G (s1 (mT S) 0 0 (nI 2)) H := mp_0_0 hW
            obtain ⟨S_6, eS_6⟩ : ∃ z, z = s1 (mT S) 0 0 (nI 2) := ⟨_, rfl⟩
            rw [← eS_6] at hW
            exact W.vret hx hb hr (fun t9 ht9 _ => ⟨⟨S_6, rfl, (by rw [mF_no (by unfold mcWrite; (try simp only [cn_i_3, cn_n_5]); rw [if_pos (isP_nI hi_3), if_pos c_24, if_pos c_46, if_pos (Or.inl c_57), if_pos c_66]) (by decide)]; exact eS_6), (show mW G S_6 t9.heap by rw [ht9]; exact hW)⟩, hS.F ht9⟩) hS.2.2 dX3_write_88
          · refine lv_aload_n hx hb dX3_write_69 rfl (lv_at hl 1 rfl) ?_
            refine va_get (D := gD G) (ci := 3) (v := .ref (gA G 2)) (C := RX3) (T := TX3) (N := 22) hx hb hts inX3 hown hK.1 hW 0 mw_0 rfl 4 (by decide) (hts (.fieldLink RX3 20 "MarkedTreesModel" "directory" "[Z") (by decide +kernel)) (fun _ h9 => h9) rfl dX3_write_70 ?_
            refine lv_iload_n hx hb dX3_write_73 rfl (lv_at hl 3 rfl) ?_
            refine nv_zald hx hb hK.1 hW 2 2 mw_2 rfl (i := n_5) (by omega) (by decide) dX3_write_74 ?_
            refine lv_if_eq (tgt := 89) hx hb dX3_write_75 (by decide) (fun c_75 => ?_) (fun c_75 => ?_)
            · refine lv_iload_n hx hb dX3_write_89 rfl (lv_at hl 4 rfl) ?_
              refine lv_iconst (v := nI 1) hx hb dX3_write_90 (by decide) ?_
              refine lv_icmp_ne (tgt := 111) hx hb dX3_write_91 (by decide) (fun c_91 => ?_) (fun c_91 => ?_)
              · refine lv_aload_n hx hb dX3_write_111 rfl (lv_at hl 1 rfl) ?_
                refine va_get (D := gD G) (ci := 3) (v := .ref (gA G 8)) (C := RX3) (T := TX3) (N := 22) hx hb hts inX3 hown hK.1 hW 0 mw_0 rfl 10 (by decide) (hts (.fieldLink RX3 40 "MarkedTreesModel" "attribute" "[I") (by decide +kernel)) (fun _ h9 => h9) rfl dX3_write_112 ?_
                refine lv_bipush (v := nI 16) hx hb dX3_write_115 (by decide) ?_
                refine lv_iload hx hb dX3_write_117 (lv_at hl 0 rfl) ?_
                refine nv_imul hx hb dX3_write_119 ?_
                refine lv_iload_n hx hb dX3_write_120 rfl (lv_at hl 3 rfl) ?_
                refine nv_iadd hx hb dX3_write_121 ?_
                refine lv_iload hx hb dX3_write_122 (lv_at hl 5 rfl) ?_
                refine nv_iast hx hb hK.1 hW (wl_D hK.2.1) hS 8 0 mw_8 rfl (i := (16 * (40 + i_3)) + n_5) (by omega) (by decide) dX3_write_124 (fun H locs hW hS => ?_)
                have hW : mW G (s1 (mT S) 8 ((16 * (40 + i_3)) + n_5) v) H := mp_8 hW
                obtain ⟨S_7, eS_7⟩ : ∃ z, z = s1 (mT S) 8 ((16 * (40 + i_3)) + n_5) v := ⟨_, rfl⟩
                rw [← eS_7] at hW
                exact W.vret hx hb hr (fun t9 ht9 _ => ⟨⟨S_7, rfl, (by rw [mF_ok (by unfold mcWrite; (try simp only [cn_i_3, cn_n_5]); rw [if_pos (isP_nI hi_3), if_pos c_24, if_pos c_46, if_pos (Or.inl c_57), if_neg c_66, if_pos c_75])]; (try simp only [cn_i_3, cn_n_5]); rw [mdWrite, if_neg c_91]; exact eS_7), (show mW G S_7 t9.heap by rw [ht9]; exact hW)⟩, hS.F ht9⟩) hS.2.2 dX3_write_125
              · refine lv_aload_n hx hb dX3_write_94 rfl (lv_at hl 1 rfl) ?_
                refine va_get (D := gD G) (ci := 3) (v := .ref (gA G 7)) (C := RX3) (T := TX3) (N := 22) hx hb hts inX3 hown hK.1 hW 0 mw_0 rfl 9 (by decide) (hts (.fieldLink RX3 37 "MarkedTreesModel" "content" "[I") (by decide +kernel)) (fun _ h9 => h9) rfl dX3_write_95 ?_
                refine lv_bipush (v := nI 16) hx hb dX3_write_98 (by decide) ?_
                refine lv_iload hx hb dX3_write_100 (lv_at hl 0 rfl) ?_
                refine nv_imul hx hb dX3_write_102 ?_
                refine lv_iload_n hx hb dX3_write_103 rfl (lv_at hl 3 rfl) ?_
                refine nv_iadd hx hb dX3_write_104 ?_
                refine lv_iload hx hb dX3_write_105 (lv_at hl 5 rfl) ?_
                refine nv_iast hx hb hK.1 hW (wl_D hK.2.1) hS 7 0 mw_7 rfl (i := (16 * (40 + i_3)) + n_5) (by omega) (by decide) dX3_write_107 (fun H locs hW hS => ?_)
                have hW : mW G (s1 (mT S) 7 ((16 * (40 + i_3)) + n_5) v) H := mp_7 hW
                obtain ⟨S_8, eS_8⟩ : ∃ z, z = s1 (mT S) 7 ((16 * (40 + i_3)) + n_5) v := ⟨_, rfl⟩
                rw [← eS_8] at hW
                refine lv_goto (tgt := 125) hx hb dX3_write_108 (by decide) ?_
                exact W.vret hx hb hr (fun t9 ht9 _ => ⟨⟨S_8, rfl, (by rw [mF_ok (by unfold mcWrite; (try simp only [cn_i_3, cn_n_5]); rw [if_pos (isP_nI hi_3), if_pos c_24, if_pos c_46, if_pos (Or.inl c_57), if_neg c_66, if_pos c_75])]; (try simp only [cn_i_3, cn_n_5]); rw [mdWrite, if_pos c_91]; exact eS_8), (show mW G S_8 t9.heap by rw [ht9]; exact hW)⟩, hS.F ht9⟩) hS.2.2 dX3_write_125
            · refine lv_iload_n hx hb dX3_write_78 rfl (lv_at hl 4 rfl) ?_
              refine lv_iconst (v := nI 1) hx hb dX3_write_79 (by decide) ?_
              refine lv_icmp_ne (tgt := 89) hx hb dX3_write_80 (by decide) (fun c_80 => ?_) (fun c_80 => ?_)
              · refine lv_iload_n hx hb dX3_write_89 rfl (lv_at hl 4 rfl) ?_
                refine lv_iconst (v := nI 1) hx hb dX3_write_90 (by decide) ?_
                refine lv_icmp_ne (tgt := 111) hx hb dX3_write_91 (by decide) (fun c_91 => ?_) (fun c_91 => ?_)
                · refine lv_aload_n hx hb dX3_write_111 rfl (lv_at hl 1 rfl) ?_
                  refine va_get (D := gD G) (ci := 3) (v := .ref (gA G 8)) (C := RX3) (T := TX3) (N := 22) hx hb hts inX3 hown hK.1 hW 0 mw_0 rfl 10 (by decide) (hts (.fieldLink RX3 40 "MarkedTreesModel" "attribute" "[I") (by decide +kernel)) (fun _ h9 => h9) rfl dX3_write_112 ?_
                  refine lv_bipush (v := nI 16) hx hb dX3_write_115 (by decide) ?_
                  refine lv_iload hx hb dX3_write_117 (lv_at hl 0 rfl) ?_
                  refine nv_imul hx hb dX3_write_119 ?_
                  refine lv_iload_n hx hb dX3_write_120 rfl (lv_at hl 3 rfl) ?_
                  refine nv_iadd hx hb dX3_write_121 ?_
                  refine lv_iload hx hb dX3_write_122 (lv_at hl 5 rfl) ?_
                  refine nv_iast hx hb hK.1 hW (wl_D hK.2.1) hS 8 0 mw_8 rfl (i := (16 * (40 + i_3)) + n_5) (by omega) (by decide) dX3_write_124 (fun H locs hW hS => ?_)
                  have hW : mW G (s1 (mT S) 8 ((16 * (40 + i_3)) + n_5) v) H := mp_8 hW
                  obtain ⟨S_9, eS_9⟩ : ∃ z, z = s1 (mT S) 8 ((16 * (40 + i_3)) + n_5) v := ⟨_, rfl⟩
                  rw [← eS_9] at hW
                  exact W.vret hx hb hr (fun t9 ht9 _ => ⟨⟨S_9, rfl, (by rw [mF_ok (by unfold mcWrite; (try simp only [cn_i_3, cn_n_5]); rw [if_pos (isP_nI hi_3), if_pos c_24, if_pos c_46, if_pos (Or.inl c_57), if_neg c_66, if_neg c_75, if_neg c_80])]; (try simp only [cn_i_3, cn_n_5]); rw [mdWrite, if_neg c_91]; exact eS_9), (show mW G S_9 t9.heap by rw [ht9]; exact hW)⟩, hS.F ht9⟩) hS.2.2 dX3_write_125
                · refine lv_aload_n hx hb dX3_write_94 rfl (lv_at hl 1 rfl) ?_
                  refine va_get (D := gD G) (ci := 3) (v := .ref (gA G 7)) (C := RX3) (T := TX3) (N := 22) hx hb hts inX3 hown hK.1 hW 0 mw_0 rfl 9 (by decide) (hts (.fieldLink RX3 37 "MarkedTreesModel" "content" "[I") (by decide +kernel)) (fun _ h9 => h9) rfl dX3_write_95 ?_
                  refine lv_bipush (v := nI 16) hx hb dX3_write_98 (by decide) ?_
                  refine lv_iload hx hb dX3_write_100 (lv_at hl 0 rfl) ?_
                  refine nv_imul hx hb dX3_write_102 ?_
                  refine lv_iload_n hx hb dX3_write_103 rfl (lv_at hl 3 rfl) ?_
                  refine nv_iadd hx hb dX3_write_104 ?_
                  refine lv_iload hx hb dX3_write_105 (lv_at hl 5 rfl) ?_
                  refine nv_iast hx hb hK.1 hW (wl_D hK.2.1) hS 7 0 mw_7 rfl (i := (16 * (40 + i_3)) + n_5) (by omega) (by decide) dX3_write_107 (fun H locs hW hS => ?_)
                  have hW : mW G (s1 (mT S) 7 ((16 * (40 + i_3)) + n_5) v) H := mp_7 hW
                  obtain ⟨S_10, eS_10⟩ : ∃ z, z = s1 (mT S) 7 ((16 * (40 + i_3)) + n_5) v := ⟨_, rfl⟩
                  rw [← eS_10] at hW
                  refine lv_goto (tgt := 125) hx hb dX3_write_108 (by decide) ?_
                  exact W.vret hx hb hr (fun t9 ht9 _ => ⟨⟨S_10, rfl, (by rw [mF_ok (by unfold mcWrite; (try simp only [cn_i_3, cn_n_5]); rw [if_pos (isP_nI hi_3), if_pos c_24, if_pos c_46, if_pos (Or.inl c_57), if_neg c_66, if_neg c_75, if_neg c_80])]; (try simp only [cn_i_3, cn_n_5]); rw [mdWrite, if_pos c_91]; exact eS_10), (show mW G S_10 t9.heap by rw [ht9]; exact hW)⟩, hS.F ht9⟩) hS.2.2 dX3_write_125
              · refine lv_aload_n hx hb dX3_write_83 rfl (lv_at hl 1 rfl) ?_
                refine lv_iconst (v := nI 2) hx hb dX3_write_84 (by decide) ?_
                refine va_put (D := gD G) (ci := 3) (v := .int (nI 2)) (ty := .int) (C := RX3) (T := TX3) (N := 22) hx hb hts inX3 tyX3 tyX3_ok nmX3 hown hK.1 hW (wl_D hK.2.1) hS 0 mw_0 rfl 0 (by decide) (hts (.fieldLink RX3 76 "MarkedTreesModel" "thrown" "I") (by decide +kernel)) (fun _ h9 => h9) rfl (by decide +kernel) rfl rfl (Nat.le_of_ble_eq_true rfl) dX3_write_85 (fun H locs hW _ hS => ?_)
                have hW : mW G (s1 (mT S) 0 0 (nI 2)) H := mp_0_0 hW
                obtain ⟨S_11, eS_11⟩ : ∃ z, z = s1 (mT S) 0 0 (nI 2) := ⟨_, rfl⟩
                rw [← eS_11] at hW
                exact W.vret hx hb hr (fun t9 ht9 _ => ⟨⟨S_11, rfl, (by rw [mF_no (by unfold mcWrite; (try simp only [cn_i_3, cn_n_5]); rw [if_pos (isP_nI hi_3), if_pos c_24, if_pos c_46, if_pos (Or.inl c_57), if_neg c_66, if_neg c_75, if_pos c_80]) (by decide)]; exact eS_11), (show mW G S_11 t9.heap by rw [ht9]; exact hW)⟩, hS.F ht9⟩) hS.2.2 dX3_write_88
        · refine lv_iload_n hx hb dX3_write_60 rfl (lv_at hl 4 rfl) ?_
          refine lv_iconst (v := nI 2) hx hb dX3_write_61 (by decide) ?_
          refine lv_icmp_ne (tgt := 83) hx hb dX3_write_62 (by decide) (fun c_62 => ?_) (fun c_62 => ?_)
          · refine lv_aload_n hx hb dX3_write_83 rfl (lv_at hl 1 rfl) ?_
            refine lv_iconst (v := nI 2) hx hb dX3_write_84 (by decide) ?_
            refine va_put (D := gD G) (ci := 3) (v := .int (nI 2)) (ty := .int) (C := RX3) (T := TX3) (N := 22) hx hb hts inX3 tyX3 tyX3_ok nmX3 hown hK.1 hW (wl_D hK.2.1) hS 0 mw_0 rfl 0 (by decide) (hts (.fieldLink RX3 76 "MarkedTreesModel" "thrown" "I") (by decide +kernel)) (fun _ h9 => h9) rfl (by decide +kernel) rfl rfl (Nat.le_of_ble_eq_true rfl) dX3_write_85 (fun H locs hW _ hS => ?_)
            have hW : mW G (s1 (mT S) 0 0 (nI 2)) H := mp_0_0 hW
            obtain ⟨S_12, eS_12⟩ : ∃ z, z = s1 (mT S) 0 0 (nI 2) := ⟨_, rfl⟩
            rw [← eS_12] at hW
            exact W.vret hx hb hr (fun t9 ht9 _ => ⟨⟨S_12, rfl, (by rw [mF_no (by unfold mcWrite; (try simp only [cn_i_3, cn_n_5]); rw [if_pos (isP_nI hi_3), if_pos c_24, if_pos c_46, if_neg (fun h => h.elim c_57 c_62)]) (by decide)]; exact eS_12), (show mW G S_12 t9.heap by rw [ht9]; exact hW)⟩, hS.F ht9⟩) hS.2.2 dX3_write_88
          · refine lv_iload_n hx hb dX3_write_65 rfl (lv_at hl 3 rfl) ?_
            refine lv_if_eq (tgt := 83) hx hb dX3_write_66 (by decide) (fun c_66 => ?_) (fun c_66 => ?_)
            · refine lv_aload_n hx hb dX3_write_83 rfl (lv_at hl 1 rfl) ?_
              refine lv_iconst (v := nI 2) hx hb dX3_write_84 (by decide) ?_
              refine va_put (D := gD G) (ci := 3) (v := .int (nI 2)) (ty := .int) (C := RX3) (T := TX3) (N := 22) hx hb hts inX3 tyX3 tyX3_ok nmX3 hown hK.1 hW (wl_D hK.2.1) hS 0 mw_0 rfl 0 (by decide) (hts (.fieldLink RX3 76 "MarkedTreesModel" "thrown" "I") (by decide +kernel)) (fun _ h9 => h9) rfl (by decide +kernel) rfl rfl (Nat.le_of_ble_eq_true rfl) dX3_write_85 (fun H locs hW _ hS => ?_)
              have hW : mW G (s1 (mT S) 0 0 (nI 2)) H := mp_0_0 hW
              obtain ⟨S_13, eS_13⟩ : ∃ z, z = s1 (mT S) 0 0 (nI 2) := ⟨_, rfl⟩
              rw [← eS_13] at hW
              exact W.vret hx hb hr (fun t9 ht9 _ => ⟨⟨S_13, rfl, (by rw [mF_no (by unfold mcWrite; (try simp only [cn_i_3, cn_n_5]); rw [if_pos (isP_nI hi_3), if_pos c_24, if_pos c_46, if_pos (Or.inr c_62), if_pos c_66]) (by decide)]; exact eS_13), (show mW G S_13 t9.heap by rw [ht9]; exact hW)⟩, hS.F ht9⟩) hS.2.2 dX3_write_88
            · refine lv_aload_n hx hb dX3_write_69 rfl (lv_at hl 1 rfl) ?_
              refine va_get (D := gD G) (ci := 3) (v := .ref (gA G 2)) (C := RX3) (T := TX3) (N := 22) hx hb hts inX3 hown hK.1 hW 0 mw_0 rfl 4 (by decide) (hts (.fieldLink RX3 20 "MarkedTreesModel" "directory" "[Z") (by decide +kernel)) (fun _ h9 => h9) rfl dX3_write_70 ?_
              refine lv_iload_n hx hb dX3_write_73 rfl (lv_at hl 3 rfl) ?_
              refine nv_zald hx hb hK.1 hW 2 2 mw_2 rfl (i := n_5) (by omega) (by decide) dX3_write_74 ?_
              refine lv_if_eq (tgt := 89) hx hb dX3_write_75 (by decide) (fun c_75 => ?_) (fun c_75 => ?_)
              · refine lv_iload_n hx hb dX3_write_89 rfl (lv_at hl 4 rfl) ?_
                refine lv_iconst (v := nI 1) hx hb dX3_write_90 (by decide) ?_
                refine lv_icmp_ne (tgt := 111) hx hb dX3_write_91 (by decide) (fun c_91 => ?_) (fun c_91 => ?_)
                · refine lv_aload_n hx hb dX3_write_111 rfl (lv_at hl 1 rfl) ?_
                  refine va_get (D := gD G) (ci := 3) (v := .ref (gA G 8)) (C := RX3) (T := TX3) (N := 22) hx hb hts inX3 hown hK.1 hW 0 mw_0 rfl 10 (by decide) (hts (.fieldLink RX3 40 "MarkedTreesModel" "attribute" "[I") (by decide +kernel)) (fun _ h9 => h9) rfl dX3_write_112 ?_
                  refine lv_bipush (v := nI 16) hx hb dX3_write_115 (by decide) ?_
                  refine lv_iload hx hb dX3_write_117 (lv_at hl 0 rfl) ?_
                  refine nv_imul hx hb dX3_write_119 ?_
                  refine lv_iload_n hx hb dX3_write_120 rfl (lv_at hl 3 rfl) ?_
                  refine nv_iadd hx hb dX3_write_121 ?_
                  refine lv_iload hx hb dX3_write_122 (lv_at hl 5 rfl) ?_
                  refine nv_iast hx hb hK.1 hW (wl_D hK.2.1) hS 8 0 mw_8 rfl (i := (16 * (40 + i_3)) + n_5) (by omega) (by decide) dX3_write_124 (fun H locs hW hS => ?_)
                  have hW : mW G (s1 (mT S) 8 ((16 * (40 + i_3)) + n_5) v) H := mp_8 hW
                  obtain ⟨S_14, eS_14⟩ : ∃ z, z = s1 (mT S) 8 ((16 * (40 + i_3)) + n_5) v := ⟨_, rfl⟩
                  rw [← eS_14] at hW
                  exact W.vret hx hb hr (fun t9 ht9 _ => ⟨⟨S_14, rfl, (by rw [mF_ok (by unfold mcWrite; (try simp only [cn_i_3, cn_n_5]); rw [if_pos (isP_nI hi_3), if_pos c_24, if_pos c_46, if_pos (Or.inr c_62), if_neg c_66, if_pos c_75])]; (try simp only [cn_i_3, cn_n_5]); rw [mdWrite, if_neg c_91]; exact eS_14), (show mW G S_14 t9.heap by rw [ht9]; exact hW)⟩, hS.F ht9⟩) hS.2.2 dX3_write_125
                · refine lv_aload_n hx hb dX3_write_94 rfl (lv_at hl 1 rfl) ?_
                  refine va_get (D := gD G) (ci := 3) (v := .ref (gA G 7)) (C := RX3) (T := TX3) (N := 22) hx hb hts inX3 hown hK.1 hW 0 mw_0 rfl 9 (by decide) (hts (.fieldLink RX3 37 "MarkedTreesModel" "content" "[I") (by decide +kernel)) (fun _ h9 => h9) rfl dX3_write_95 ?_
                  refine lv_bipush (v := nI 16) hx hb dX3_write_98 (by decide) ?_
                  refine lv_iload hx hb dX3_write_100 (lv_at hl 0 rfl) ?_
                  refine nv_imul hx hb dX3_write_102 ?_
                  refine lv_iload_n hx hb dX3_write_103 rfl (lv_at hl 3 rfl) ?_
                  refine nv_iadd hx hb dX3_write_104 ?_
                  refine lv_iload hx hb dX3_write_105 (lv_at hl 5 rfl) ?_
                  refine nv_iast hx hb hK.1 hW (wl_D hK.2.1) hS 7 0 mw_7 rfl (i := (16 * (40 + i_3)) + n_5) (by omega) (by decide) dX3_write_107 (fun H locs hW hS => ?_)
                  have hW : mW G (s1 (mT S) 7 ((16 * (40 + i_3)) + n_5) v) H := mp_7 hW
                  obtain ⟨S_15, eS_15⟩ : ∃ z, z = s1 (mT S) 7 ((16 * (40 + i_3)) + n_5) v := ⟨_, rfl⟩
                  rw [← eS_15] at hW
                  refine lv_goto (tgt := 125) hx hb dX3_write_108 (by decide) ?_
                  exact W.vret hx hb hr (fun t9 ht9 _ => ⟨⟨S_15, rfl, (by rw [mF_ok (by unfold mcWrite; (try simp only [cn_i_3, cn_n_5]); rw [if_pos (isP_nI hi_3), if_pos c_24, if_pos c_46, if_pos (Or.inr c_62), if_neg c_66, if_pos c_75])]; (try simp only [cn_i_3, cn_n_5]); rw [mdWrite, if_pos c_91]; exact eS_15), (show mW G S_15 t9.heap by rw [ht9]; exact hW)⟩, hS.F ht9⟩) hS.2.2 dX3_write_125
              · refine lv_iload_n hx hb dX3_write_78 rfl (lv_at hl 4 rfl) ?_
                refine lv_iconst (v := nI 1) hx hb dX3_write_79 (by decide) ?_
                refine lv_icmp_ne (tgt := 89) hx hb dX3_write_80 (by decide) (fun c_80 => ?_) (fun c_80 => ?_)
                · refine lv_iload_n hx hb dX3_write_89 rfl (lv_at hl 4 rfl) ?_
                  refine lv_iconst (v := nI 1) hx hb dX3_write_90 (by decide) ?_
                  refine lv_icmp_ne (tgt := 111) hx hb dX3_write_91 (by decide) (fun c_91 => ?_) (fun c_91 => ?_)
                  · refine lv_aload_n hx hb dX3_write_111 rfl (lv_at hl 1 rfl) ?_
                    refine va_get (D := gD G) (ci := 3) (v := .ref (gA G 8)) (C := RX3) (T := TX3) (N := 22) hx hb hts inX3 hown hK.1 hW 0 mw_0 rfl 10 (by decide) (hts (.fieldLink RX3 40 "MarkedTreesModel" "attribute" "[I") (by decide +kernel)) (fun _ h9 => h9) rfl dX3_write_112 ?_
                    refine lv_bipush (v := nI 16) hx hb dX3_write_115 (by decide) ?_
                    refine lv_iload hx hb dX3_write_117 (lv_at hl 0 rfl) ?_
                    refine nv_imul hx hb dX3_write_119 ?_
                    refine lv_iload_n hx hb dX3_write_120 rfl (lv_at hl 3 rfl) ?_
                    refine nv_iadd hx hb dX3_write_121 ?_
                    refine lv_iload hx hb dX3_write_122 (lv_at hl 5 rfl) ?_
                    refine nv_iast hx hb hK.1 hW (wl_D hK.2.1) hS 8 0 mw_8 rfl (i := (16 * (40 + i_3)) + n_5) (by omega) (by decide) dX3_write_124 (fun H locs hW hS => ?_)
                    have hW : mW G (s1 (mT S) 8 ((16 * (40 + i_3)) + n_5) v) H := mp_8 hW
                    obtain ⟨S_16, eS_16⟩ : ∃ z, z = s1 (mT S) 8 ((16 * (40 + i_3)) + n_5) v := ⟨_, rfl⟩
                    rw [← eS_16] at hW
                    exact W.vret hx hb hr (fun t9 ht9 _ => ⟨⟨S_16, rfl, (by rw [mF_ok (by unfold mcWrite; (try simp only [cn_i_3, cn_n_5]); rw [if_pos (isP_nI hi_3), if_pos c_24, if_pos c_46, if_pos (Or.inr c_62), if_neg c_66, if_neg c_75, if_neg c_80])]; (try simp only [cn_i_3, cn_n_5]); rw [mdWrite, if_neg c_91]; exact eS_16), (show mW G S_16 t9.heap by rw [ht9]; exact hW)⟩, hS.F ht9⟩) hS.2.2 dX3_write_125
                  · refine lv_aload_n hx hb dX3_write_94 rfl (lv_at hl 1 rfl) ?_
                    refine va_get (D := gD G) (ci := 3) (v := .ref (gA G 7)) (C := RX3) (T := TX3) (N := 22) hx hb hts inX3 hown hK.1 hW 0 mw_0 rfl 9 (by decide) (hts (.fieldLink RX3 37 "MarkedTreesModel" "content" "[I") (by decide +kernel)) (fun _ h9 => h9) rfl dX3_write_95 ?_
                    refine lv_bipush (v := nI 16) hx hb dX3_write_98 (by decide) ?_
                    refine lv_iload hx hb dX3_write_100 (lv_at hl 0 rfl) ?_
                    refine nv_imul hx hb dX3_write_102 ?_
                    refine lv_iload_n hx hb dX3_write_103 rfl (lv_at hl 3 rfl) ?_
                    refine nv_iadd hx hb dX3_write_104 ?_
                    refine lv_iload hx hb dX3_write_105 (lv_at hl 5 rfl) ?_
                    refine nv_iast hx hb hK.1 hW (wl_D hK.2.1) hS 7 0 mw_7 rfl (i := (16 * (40 + i_3)) + n_5) (by omega) (by decide) dX3_write_107 (fun H locs hW hS => ?_)
                    have hW : mW G (s1 (mT S) 7 ((16 * (40 + i_3)) + n_5) v) H := mp_7 hW
                    obtain ⟨S_17, eS_17⟩ : ∃ z, z = s1 (mT S) 7 ((16 * (40 + i_3)) + n_5) v := ⟨_, rfl⟩
                    rw [← eS_17] at hW
                    refine lv_goto (tgt := 125) hx hb dX3_write_108 (by decide) ?_
                    exact W.vret hx hb hr (fun t9 ht9 _ => ⟨⟨S_17, rfl, (by rw [mF_ok (by unfold mcWrite; (try simp only [cn_i_3, cn_n_5]); rw [if_pos (isP_nI hi_3), if_pos c_24, if_pos c_46, if_pos (Or.inr c_62), if_neg c_66, if_neg c_75, if_neg c_80])]; (try simp only [cn_i_3, cn_n_5]); rw [mdWrite, if_pos c_91]; exact eS_17), (show mW G S_17 t9.heap by rw [ht9]; exact hW)⟩, hS.F ht9⟩) hS.2.2 dX3_write_125
                · refine lv_aload_n hx hb dX3_write_83 rfl (lv_at hl 1 rfl) ?_
                  refine lv_iconst (v := nI 2) hx hb dX3_write_84 (by decide) ?_
                  refine va_put (D := gD G) (ci := 3) (v := .int (nI 2)) (ty := .int) (C := RX3) (T := TX3) (N := 22) hx hb hts inX3 tyX3 tyX3_ok nmX3 hown hK.1 hW (wl_D hK.2.1) hS 0 mw_0 rfl 0 (by decide) (hts (.fieldLink RX3 76 "MarkedTreesModel" "thrown" "I") (by decide +kernel)) (fun _ h9 => h9) rfl (by decide +kernel) rfl rfl (Nat.le_of_ble_eq_true rfl) dX3_write_85 (fun H locs hW _ hS => ?_)
                  have hW : mW G (s1 (mT S) 0 0 (nI 2)) H := mp_0_0 hW
                  obtain ⟨S_18, eS_18⟩ : ∃ z, z = s1 (mT S) 0 0 (nI 2) := ⟨_, rfl⟩
                  rw [← eS_18] at hW
                  exact W.vret hx hb hr (fun t9 ht9 _ => ⟨⟨S_18, rfl, (by rw [mF_no (by unfold mcWrite; (try simp only [cn_i_3, cn_n_5]); rw [if_pos (isP_nI hi_3), if_pos c_24, if_pos c_46, if_pos (Or.inr c_62), if_neg c_66, if_neg c_75, if_pos c_80]) (by decide)]; exact eS_18), (show mW G S_18 t9.heap by rw [ht9]; exact hW)⟩, hS.F ht9⟩) hS.2.2 dX3_write_88
      · refine lv_aload_n hx hb dX3_write_49 rfl (lv_at hl 1 rfl) ?_
        refine lv_iconst (v := nI 1) hx hb dX3_write_50 (by decide) ?_
        refine va_put (D := gD G) (ci := 3) (v := .int (nI 1)) (ty := .int) (C := RX3) (T := TX3) (N := 22) hx hb hts inX3 tyX3 tyX3_ok nmX3 hown hK.1 hW (wl_D hK.2.1) hS 0 mw_0 rfl 0 (by decide) (hts (.fieldLink RX3 76 "MarkedTreesModel" "thrown" "I") (by decide +kernel)) (fun _ h9 => h9) rfl (by decide +kernel) rfl rfl (Nat.le_of_ble_eq_true rfl) dX3_write_51 (fun H locs hW _ hS => ?_)
        have hW : mW G (s1 (mT S) 0 0 (nI 1)) H := mp_0_0 hW
        obtain ⟨S_19, eS_19⟩ : ∃ z, z = s1 (mT S) 0 0 (nI 1) := ⟨_, rfl⟩
        rw [← eS_19] at hW
        exact W.vret hx hb hr (fun t9 ht9 _ => ⟨⟨S_19, rfl, (by rw [mF_no (by unfold mcWrite; (try simp only [cn_i_3]); rw [if_pos (isP_nI hi_3), if_pos c_24, if_neg (ne_true_of_eq_false c_46)]) (by decide)]; exact eS_19), (show mW G S_19 t9.heap by rw [ht9]; exact hW)⟩, hS.F ht9⟩) hS.2.2 dX3_write_54
    · refine lv_aload_n hx hb dX3_write_27 rfl (lv_at hl 0 rfl) ?_
      refine lv_iconst (v := nI 3) hx hb dX3_write_28 (by decide) ?_
      refine va_put (D := gD G) (ci := 3) (v := .int (nI 3)) (ty := .int) (C := RX3) (T := TX3) (N := 22) hx hb hts inX3 tyX3 tyX3_ok nmX3 hown hK.1 hW (wl_D hK.2.1) hS 0 mw_0 rfl 0 (by decide) (hts (.fieldLink RX3 76 "MarkedTreesModel" "thrown" "I") (by decide +kernel)) (fun _ h9 => h9) rfl (by decide +kernel) rfl rfl (Nat.le_of_ble_eq_true rfl) dX3_write_29 (fun H locs hW _ hS => ?_)
      have hW : mW G (s1 (mT S) 0 0 (nI 3)) H := mp_0_0 hW
      obtain ⟨S_20, eS_20⟩ : ∃ z, z = s1 (mT S) 0 0 (nI 3) := ⟨_, rfl⟩
      rw [← eS_20] at hW
      exact W.vret hx hb hr (fun t9 ht9 _ => ⟨⟨S_20, rfl, (by rw [mF_no (by unfold mcWrite; (try simp only [cn_i_3]); rw [if_pos (isP_nI hi_3), if_neg c_24]) (by decide)]; exact eS_20), (show mW G S_20 t9.heap by rw [ht9]; exact hW)⟩, hS.F ht9⟩) hS.2.2 dX3_write_32
  · refine lv_aload_n hx hb dX3_write_12 rfl (lv_at hl 0 rfl) ?_
    refine lv_iconst (v := nI 1) hx hb dX3_write_13 (by decide) ?_
    refine va_put (D := gD G) (ci := 3) (v := .int (nI 1)) (ty := .int) (C := RX3) (T := TX3) (N := 22) hx hb hts inX3 tyX3 tyX3_ok nmX3 hown hK.1 hW (wl_D hK.2.1) hS 0 mw_0 rfl 0 (by decide) (hts (.fieldLink RX3 76 "MarkedTreesModel" "thrown" "I") (by decide +kernel)) (fun _ h9 => h9) rfl (by decide +kernel) rfl rfl (Nat.le_of_ble_eq_true rfl) dX3_write_14 (fun H locs hW _ hS => ?_)
    have hW : mW G (s1 (mT S) 0 0 (nI 1)) H := mp_0_0 hW
    obtain ⟨S_21, eS_21⟩ : ∃ z, z = s1 (mT S) 0 0 (nI 1) := ⟨_, rfl⟩
    rw [← eS_21] at hW
    exact W.vret hx hb hr (fun t9 ht9 _ => ⟨⟨S_21, rfl, (by rw [mF_no (by unfold mcWrite; rw [if_neg (ne_true_of_eq_false c_9)]) (by decide)]; exact eS_21), (show mW G S_21 t9.heap by rw [ht9]; exact hW)⟩, hS.F ht9⟩) hS.2.2 dX3_write_17

set_option maxHeartbeats 4000000 in
set_option maxRecDepth 100000 in
theorem k_X3_decide (l : Launch) (G : GT) (S : SS) (sz : Nat) {nc : Nat} (hnc : S.1 0 3 = nI nc) (h1n : 1 ≤ nc) (h16 : nc ≤ 16) (x y z w : Int32) : Met l yX3_decide wsX3_decide ({ frames := 1, cells := 0, slots := 0, locals := 22 } : Room) (va_Pc [.ref (gA G 0), .int x, .int y, .int z, .int w] (fun U => U.heap.size = sz ∧ mP G S U)) (va_Qv (fun S' => S' = mF (mT S) (mcDecide nc x y z w) (s1 (mT S) 12 (48 * cn x + 3 * cn y + cn z) w)) (mB G) (gF G sz)) 0 0 (gF G sz) := by
  refine Met.ofW (cc := cX3_decide) (maxL := 5) (ret := none) (by decide) rfl ?_
  intro p e s m args below meth c s₁ B hml hv
  obtain ⟨rfl, hsz, hW, hK⟩ := hv
  subst hsz
  have hx := B.exec
  have hb := B.bytes
  have hr := B.returns
  have hts := atoms_spec (ws := wsX3_decide) B.pre
  have hown : s.vm.findClass RX3 = some m.cls := findClass_of_methodNamed B.named
  have hlocks := B.notSynchronized
  have hS : va_S (gF G s.heap.size) s.heap s.heap [] := va_S.rf
  have inX3 : ∀ w ∈ u_ws RX3 TX3 22, w ∈ wsX3_decide := by decide +kernel
  have hl := lv_entry ([.ref (gA G 0), .int x, .int y, .int z, .int w]) (n := 5) (Nat.le_of_ble_eq_true rfl)
  rw [lg_entry_eq]
  generalize (lg_sl ([.ref (gA G 0), .int x, .int y, .int z, .int w]) ++ List.replicate (5 - (lg_sl ([.ref (gA G 0), .int x, .int y, .int z, .int w])).length) Slot.unset).toArray = ls at hl ⊢
  have hl : lv_has ls 5 [(0, .ref (gA G 0)), (1, .int x), (2, .int y), (3, .int z), (4, .int w)] := hl
  refine lv_aload_n hx hb dX3_decide_0 rfl (lv_at hl 0 rfl) ?_
  refine lv_iconst (v := nI 0) hx hb dX3_decide_1 (by decide) ?_
  refine va_put (D := gD G) (ci := 3) (v := .int (nI 0)) (ty := .int) (C := RX3) (T := TX3) (N := 22) hx hb hts inX3 tyX3 tyX3_ok nmX3 hown hK.1 hW (wl_D hK.2.1) hS 0 mw_0 rfl 0 (by decide) (hts (.fieldLink RX3 76 "MarkedTreesModel" "thrown" "I") (by decide +kernel)) (fun _ h9 => h9) rfl (by decide +kernel) rfl rfl (Nat.le_of_ble_eq_true rfl) dX3_decide_2 (fun H locs hW _ hS => ?_)
  have hW : mW G (s1 S 0 0 (nI 0)) H := mp_0_0 hW
  obtain ⟨S_1, eS_1⟩ : ∃ z, z = s1 S 0 0 (nI 0) := ⟨_, rfl⟩
  rw [← eS_1] at hW
  have hT : S_1 = mT S := eS_1
  subst hT
  have hncT : (mT S).1 0 3 = nI nc := (mT_0 _ (by omega)).trans hnc
  refine lv_iload_n hx hb dX3_decide_5 rfl (lv_at hl 1 rfl) ?_
  refine pv_i (va_runS (As := [.int x]) (rest := []) ⟨hx, hb, hml, hown, hts⟩ (k_X3_isPeer l x) (va_cwS 1 hts gX3_decide_X3_isPeer rfl rfl rfl (by decide +kernel) ⟨Nat.le_of_ble_eq_true rfl, Nat.le_of_ble_eq_true rfl⟩) ⟨(fun _ _ _ _ h => h), fun U _ _ => ⟨rfl, trivial⟩⟩ rfl rfl hl.1 rfl (lv_room (Nat.le_of_ble_eq_true rfl)) dX3_decide_6 ⟨Nat.le_of_ble_eq_true rfl, Nat.le_of_ble_eq_true rfl⟩) (fun r_2 hr_2 => ?_)
  have hr_2 : r_2 = bI (isP x) := hr_2
  subst hr_2
  refine bv_if_eq (b := isP x) (tgt := 26) hx hb dX3_decide_9 (by decide) (fun c_9 => ?_) (fun c_9 => ?_)
  · refine lv_aload_n hx hb dX3_decide_26 rfl (lv_at hl 0 rfl) ?_
    refine lv_iconst (v := nI 1) hx hb dX3_decide_27 (by decide) ?_
    refine va_put (D := gD G) (ci := 3) (v := .int (nI 1)) (ty := .int) (C := RX3) (T := TX3) (N := 22) hx hb hts inX3 tyX3 tyX3_ok nmX3 hown hK.1 hW (wl_D hK.2.1) hS 0 mw_0 rfl 0 (by decide) (hts (.fieldLink RX3 76 "MarkedTreesModel" "thrown" "I") (by decide +kernel)) (fun _ h9 => h9) rfl (by decide +kernel) rfl rfl (Nat.le_of_ble_eq_true rfl) dX3_decide_28 (fun H locs hW _ hS => ?_)
    have hW : mW G (s1 (mT S) 0 0 (nI 1)) H := mp_0_0 hW
    obtain ⟨S_3, eS_3⟩ : ∃ z, z = s1 (mT S) 0 0 (nI 1) := ⟨_, rfl⟩
    rw [← eS_3] at hW
    exact W.vret hx hb hr (fun t9 ht9 _ => ⟨⟨S_3, rfl, (by rw [mF_no (by unfold mcDecide; rw [if_neg (ne_true_of_eq_false c_9)]) (by decide)]; exact eS_3), (show mW G S_3 t9.heap by rw [ht9]; exact hW)⟩, hS.F ht9⟩) hS.2.2 dX3_decide_31
  · obtain ⟨i_4, hi_4, rfl⟩ := isP_iff.mp c_9
    have cn_i_4 : cn (nI i_4) = i_4 := cn_nI (by omega)
    refine lv_iload_n hx hb dX3_decide_12 rfl (lv_at hl 2 rfl) ?_
    refine lv_iconst (v := nI 0) hx hb dX3_decide_13 (by decide) ?_
    refine lv_aload_n hx hb dX3_decide_14 rfl (lv_at hl 0 rfl) ?_
    refine va_get (D := gD G) (ci := 3) (v := .int (nI nc)) (C := RX3) (T := TX3) (N := 22) hx hb hts inX3 hown hK.1 hW 0 mw_0 rfl 3 (by decide) (hts (.fieldLink RX3 17 "MarkedTreesModel" "nodes" "I") (by decide +kernel)) (fun _ h9 => h9) (by rw [← hncT]; rfl) dX3_decide_15 ?_
    refine lv_iconst (v := nI 1) hx hb dX3_decide_18 (by decide) ?_
    refine nv_isub hx hb (by omega) dX3_decide_19 ?_
    refine pv_i (va_runS (As := [.int y, .int (nI 0), .int (nI (nc - 1))]) (rest := []) ⟨hx, hb, hml, hown, hts⟩ (k_X3_in l y (nI 0) (nI (nc - 1))) (va_cwS 3 hts gX3_decide_X3_in rfl rfl rfl (by decide +kernel) ⟨Nat.le_of_ble_eq_true rfl, Nat.le_of_ble_eq_true rfl⟩) ⟨(fun _ _ _ _ h => h), fun U _ _ => ⟨rfl, trivial⟩⟩ rfl rfl hl.1 rfl (lv_room (Nat.le_of_ble_eq_true rfl)) dX3_decide_20 ⟨Nat.le_of_ble_eq_true rfl, Nat.le_of_ble_eq_true rfl⟩) (fun r_5 hr_5 => ?_)
    have hr_5 : r_5 = bI (inM y (nI 0) (nI (nc - 1))) := hr_5
    subst hr_5
    refine bv_if_ne (b := inM y (nI 0) (nI (nc - 1))) (tgt := 32) hx hb dX3_decide_23 (by decide) (fun c_23 => ?_) (fun c_23 => ?_)
    · have d_23 : inB y nc = true := by have h9 := (inM_B y (n := nc - 1) (by omega)).symm.trans c_23; rwa [Nat.sub_add_cancel (by omega)] at h9
      obtain ⟨n_6, hn_6, rfl⟩ := (inB_iff (by omega)).mp d_23
      have cn_n_6 : cn (nI n_6) = n_6 := cn_nI (by omega)
      refine lv_iload_n hx hb dX3_decide_32 rfl (lv_at hl 3 rfl) ?_
      refine lv_iconst (v := nI 0) hx hb dX3_decide_33 (by decide) ?_
      refine lv_iconst (v := nI 2) hx hb dX3_decide_34 (by decide) ?_
      refine pv_i (va_runS (As := [.int z, .int (nI 0), .int (nI 2)]) (rest := []) ⟨hx, hb, hml, hown, hts⟩ (k_X3_in l z (nI 0) (nI 2)) (va_cwS 3 hts gX3_decide_X3_in rfl rfl rfl (by decide +kernel) ⟨Nat.le_of_ble_eq_true rfl, Nat.le_of_ble_eq_true rfl⟩) ⟨(fun _ _ _ _ h => h), fun U _ _ => ⟨rfl, trivial⟩⟩ rfl rfl hl.1 rfl (lv_room (Nat.le_of_ble_eq_true rfl)) dX3_decide_35 ⟨Nat.le_of_ble_eq_true rfl, Nat.le_of_ble_eq_true rfl⟩) (fun r_7 hr_7 => ?_)
      have hr_7 : r_7 = bI (inM z (nI 0) (nI 2)) := hr_7
      subst hr_7
      refine bv_if_eq (b := inM z (nI 0) (nI 2)) (tgt := 55) hx hb dX3_decide_38 (by decide) (fun c_38 => ?_) (fun c_38 => ?_)
      · have d_38 : inB z 3 = false := (inM_B z (n := 2) (by decide)).symm.trans c_38
        refine lv_aload_n hx hb dX3_decide_55 rfl (lv_at hl 0 rfl) ?_
        refine lv_iconst (v := nI 2) hx hb dX3_decide_56 (by decide) ?_
        refine va_put (D := gD G) (ci := 3) (v := .int (nI 2)) (ty := .int) (C := RX3) (T := TX3) (N := 22) hx hb hts inX3 tyX3 tyX3_ok nmX3 hown hK.1 hW (wl_D hK.2.1) hS 0 mw_0 rfl 0 (by decide) (hts (.fieldLink RX3 76 "MarkedTreesModel" "thrown" "I") (by decide +kernel)) (fun _ h9 => h9) rfl (by decide +kernel) rfl rfl (Nat.le_of_ble_eq_true rfl) dX3_decide_57 (fun H locs hW _ hS => ?_)
        have hW : mW G (s1 (mT S) 0 0 (nI 2)) H := mp_0_0 hW
        obtain ⟨S_8, eS_8⟩ : ∃ z, z = s1 (mT S) 0 0 (nI 2) := ⟨_, rfl⟩
        rw [← eS_8] at hW
        exact W.vret hx hb hr (fun t9 ht9 _ => ⟨⟨S_8, rfl, (by rw [mF_no (by unfold mcDecide; (try simp only [cn_i_4, cn_n_6]); rw [if_pos (isP_nI hi_4), if_pos d_23, if_neg (ne_true_of_eq_false d_38)]) (by decide)]; exact eS_8), (show mW G S_8 t9.heap by rw [ht9]; exact hW)⟩, hS.F ht9⟩) hS.2.2 dX3_decide_60
      · have d_38 : inB z 3 = true := (inM_B z (n := 2) (by decide)).symm.trans c_38
        obtain ⟨n_9, hn_9, rfl⟩ := (inB_iff (by omega)).mp d_38
        have cn_n_9 : cn (nI n_9) = n_9 := cn_nI (by omega)
        refine lv_iload hx hb dX3_decide_41 (lv_at hl 4 rfl) ?_
        refine lv_iconst (v := (-1)) hx hb dX3_decide_43 (by decide) ?_
        refine lv_iconst (v := nI 1) hx hb dX3_decide_44 (by decide) ?_
        refine pv_i (va_runS (As := [.int w, .int (-1), .int (nI 1)]) (rest := []) ⟨hx, hb, hml, hown, hts⟩ (k_X3_in l w (-1) (nI 1)) (va_cwS 3 hts gX3_decide_X3_in rfl rfl rfl (by decide +kernel) ⟨Nat.le_of_ble_eq_true rfl, Nat.le_of_ble_eq_true rfl⟩) ⟨(fun _ _ _ _ h => h), fun U _ _ => ⟨rfl, trivial⟩⟩ rfl rfl hl.1 rfl (lv_room (Nat.le_of_ble_eq_true rfl)) dX3_decide_45 ⟨Nat.le_of_ble_eq_true rfl, Nat.le_of_ble_eq_true rfl⟩) (fun r_10 hr_10 => ?_)
        have hr_10 : r_10 = bI (inM w (-1) (nI 1)) := hr_10
        subst hr_10
        refine bv_if_eq (b := inM w (-1) (nI 1)) (tgt := 55) hx hb dX3_decide_48 (by decide) (fun c_48 => ?_) (fun c_48 => ?_)
        · refine lv_aload_n hx hb dX3_decide_55 rfl (lv_at hl 0 rfl) ?_
          refine lv_iconst (v := nI 2) hx hb dX3_decide_56 (by decide) ?_
          refine va_put (D := gD G) (ci := 3) (v := .int (nI 2)) (ty := .int) (C := RX3) (T := TX3) (N := 22) hx hb hts inX3 tyX3 tyX3_ok nmX3 hown hK.1 hW (wl_D hK.2.1) hS 0 mw_0 rfl 0 (by decide) (hts (.fieldLink RX3 76 "MarkedTreesModel" "thrown" "I") (by decide +kernel)) (fun _ h9 => h9) rfl (by decide +kernel) rfl rfl (Nat.le_of_ble_eq_true rfl) dX3_decide_57 (fun H locs hW _ hS => ?_)
          have hW : mW G (s1 (mT S) 0 0 (nI 2)) H := mp_0_0 hW
          obtain ⟨S_11, eS_11⟩ : ∃ z, z = s1 (mT S) 0 0 (nI 2) := ⟨_, rfl⟩
          rw [← eS_11] at hW
          exact W.vret hx hb hr (fun t9 ht9 _ => ⟨⟨S_11, rfl, (by rw [mF_no (by unfold mcDecide; (try simp only [cn_i_4, cn_n_6, cn_n_9]); rw [if_pos (isP_nI hi_4), if_pos d_23, if_pos d_38, if_neg (ne_true_of_eq_false c_48)]) (by decide)]; exact eS_11), (show mW G S_11 t9.heap by rw [ht9]; exact hW)⟩, hS.F ht9⟩) hS.2.2 dX3_decide_60
        · refine lv_iload_n hx hb dX3_decide_51 rfl (lv_at hl 2 rfl) ?_
          refine lv_if_ne (tgt := 61) hx hb dX3_decide_52 (by decide) (fun c_52 => ?_) (fun c_52 => ?_)
          · refine lv_aload_n hx hb dX3_decide_61 rfl (lv_at hl 0 rfl) ?_
            refine va_get (D := gD G) (ci := 3) (v := .ref (gA G 12)) (C := RX3) (T := TX3) (N := 22) hx hb hts inX3 hown hK.1 hW 0 mw_0 rfl 14 (by decide) (hts (.fieldLink RX3 52 "MarkedTreesModel" "decided" "[I") (by decide +kernel)) (fun _ h9 => h9) rfl dX3_decide_62 ?_
            refine lv_bipush (v := nI 48) hx hb dX3_decide_65 (by decide) ?_
            refine lv_iload_n hx hb dX3_decide_67 rfl (lv_at hl 1 rfl) ?_
            refine nv_imul hx hb dX3_decide_68 ?_
            refine lv_iconst (v := nI 3) hx hb dX3_decide_69 (by decide) ?_
            refine lv_iload_n hx hb dX3_decide_70 rfl (lv_at hl 2 rfl) ?_
            refine nv_imul hx hb dX3_decide_71 ?_
            refine nv_iadd hx hb dX3_decide_72 ?_
            refine lv_iload_n hx hb dX3_decide_73 rfl (lv_at hl 3 rfl) ?_
            refine nv_iadd hx hb dX3_decide_74 ?_
            refine lv_iload hx hb dX3_decide_75 (lv_at hl 4 rfl) ?_
            refine nv_iast hx hb hK.1 hW (wl_D hK.2.1) hS 12 0 mw_12 rfl (i := ((48 * i_4) + (3 * n_6)) + n_9) (by omega) (by decide) dX3_decide_77 (fun H locs hW hS => ?_)
            have hW : mW G (s1 (mT S) 12 (((48 * i_4) + (3 * n_6)) + n_9) w) H := mp_12 hW
            obtain ⟨S_12, eS_12⟩ : ∃ z, z = s1 (mT S) 12 (((48 * i_4) + (3 * n_6)) + n_9) w := ⟨_, rfl⟩
            rw [← eS_12] at hW
            exact W.vret hx hb hr (fun t9 ht9 _ => ⟨⟨S_12, rfl, (by rw [mF_ok (by unfold mcDecide; (try simp only [cn_i_4, cn_n_6, cn_n_9]); rw [if_pos (isP_nI hi_4), if_pos d_23, if_pos d_38, if_pos c_48, if_neg c_52])]; (try simp only [cn_i_4, cn_n_6, cn_n_9]); exact eS_12), (show mW G S_12 t9.heap by rw [ht9]; exact hW)⟩, hS.F ht9⟩) hS.2.2 dX3_decide_78
          · refine lv_aload_n hx hb dX3_decide_55 rfl (lv_at hl 0 rfl) ?_
            refine lv_iconst (v := nI 2) hx hb dX3_decide_56 (by decide) ?_
            refine va_put (D := gD G) (ci := 3) (v := .int (nI 2)) (ty := .int) (C := RX3) (T := TX3) (N := 22) hx hb hts inX3 tyX3 tyX3_ok nmX3 hown hK.1 hW (wl_D hK.2.1) hS 0 mw_0 rfl 0 (by decide) (hts (.fieldLink RX3 76 "MarkedTreesModel" "thrown" "I") (by decide +kernel)) (fun _ h9 => h9) rfl (by decide +kernel) rfl rfl (Nat.le_of_ble_eq_true rfl) dX3_decide_57 (fun H locs hW _ hS => ?_)
            have hW : mW G (s1 (mT S) 0 0 (nI 2)) H := mp_0_0 hW
            obtain ⟨S_13, eS_13⟩ : ∃ z, z = s1 (mT S) 0 0 (nI 2) := ⟨_, rfl⟩
            rw [← eS_13] at hW
            exact W.vret hx hb hr (fun t9 ht9 _ => ⟨⟨S_13, rfl, (by rw [mF_no (by unfold mcDecide; (try simp only [cn_i_4, cn_n_6, cn_n_9]); rw [if_pos (isP_nI hi_4), if_pos d_23, if_pos d_38, if_pos c_48, if_pos c_52]) (by decide)]; exact eS_13), (show mW G S_13 t9.heap by rw [ht9]; exact hW)⟩, hS.F ht9⟩) hS.2.2 dX3_decide_60
    · have d_23 : inB y nc = false := by have h9 := (inM_B y (n := nc - 1) (by omega)).symm.trans c_23; rwa [Nat.sub_add_cancel (by omega)] at h9
      refine lv_aload_n hx hb dX3_decide_26 rfl (lv_at hl 0 rfl) ?_
      refine lv_iconst (v := nI 1) hx hb dX3_decide_27 (by decide) ?_
      refine va_put (D := gD G) (ci := 3) (v := .int (nI 1)) (ty := .int) (C := RX3) (T := TX3) (N := 22) hx hb hts inX3 tyX3 tyX3_ok nmX3 hown hK.1 hW (wl_D hK.2.1) hS 0 mw_0 rfl 0 (by decide) (hts (.fieldLink RX3 76 "MarkedTreesModel" "thrown" "I") (by decide +kernel)) (fun _ h9 => h9) rfl (by decide +kernel) rfl rfl (Nat.le_of_ble_eq_true rfl) dX3_decide_28 (fun H locs hW _ hS => ?_)
      have hW : mW G (s1 (mT S) 0 0 (nI 1)) H := mp_0_0 hW
      obtain ⟨S_14, eS_14⟩ : ∃ z, z = s1 (mT S) 0 0 (nI 1) := ⟨_, rfl⟩
      rw [← eS_14] at hW
      exact W.vret hx hb hr (fun t9 ht9 _ => ⟨⟨S_14, rfl, (by rw [mF_no (by unfold mcDecide; (try simp only [cn_i_4]); rw [if_pos (isP_nI hi_4), if_neg (ne_true_of_eq_false d_23)]) (by decide)]; exact eS_14), (show mW G S_14 t9.heap by rw [ht9]; exact hW)⟩, hS.F ht9⟩) hS.2.2 dX3_decide_31

set_option maxHeartbeats 4000000 in
set_option maxRecDepth 100000 in
theorem k_X3_bury (l : Launch) (G : GT) (S : SS) (sz : Nat) {nc : Nat} (hnc : S.1 0 3 = nI nc) (h1n : 1 ≤ nc) (h16 : nc ≤ 16) (x y : Int32) (db : Bool) : Met l yX3_bury wsX3_bury ({ frames := 1, cells := 0, slots := 0, locals := 22 } : Room) (va_Pc [.ref (gA G 0), .int x, .int y, .int (bI db)] (fun U => U.heap.size = sz ∧ mP G S U)) (va_Qv (fun S' => S' = mF (mT S) (mcBury nc x y) (mdBury (mT S) (cn x) (cn y) db)) (mB G) (gF G sz)) 0 0 (gF G sz) := by
  refine Met.ofW (cc := cX3_bury) (maxL := 5) (ret := none) (by decide) rfl ?_
  intro p e s m args below meth c s₁ B hml hv
  obtain ⟨rfl, hsz, hW, hK⟩ := hv
  subst hsz
  have hx := B.exec
  have hb := B.bytes
  have hr := B.returns
  have hts := atoms_spec (ws := wsX3_bury) B.pre
  have hown : s.vm.findClass RX3 = some m.cls := findClass_of_methodNamed B.named
  have hlocks := B.notSynchronized
  have hS : va_S (gF G s.heap.size) s.heap s.heap [] := va_S.rf
  have inX3 : ∀ w ∈ u_ws RX3 TX3 22, w ∈ wsX3_bury := by decide +kernel
  have hl := lv_entry ([.ref (gA G 0), .int x, .int y, .int (bI db)]) (n := 5) (Nat.le_of_ble_eq_true rfl)
  rw [lg_entry_eq]
  generalize (lg_sl ([.ref (gA G 0), .int x, .int y, .int (bI db)]) ++ List.replicate (5 - (lg_sl ([.ref (gA G 0), .int x, .int y, .int (bI db)])).length) Slot.unset).toArray = ls at hl ⊢
  have hl : lv_has ls 5 [(0, .ref (gA G 0)), (1, .int x), (2, .int y), (3, .int (bI db))] := hl
  refine lv_aload_n hx hb dX3_bury_0 rfl (lv_at hl 0 rfl) ?_
  refine lv_iconst (v := nI 0) hx hb dX3_bury_1 (by decide) ?_
  refine va_put (D := gD G) (ci := 3) (v := .int (nI 0)) (ty := .int) (C := RX3) (T := TX3) (N := 22) hx hb hts inX3 tyX3 tyX3_ok nmX3 hown hK.1 hW (wl_D hK.2.1) hS 0 mw_0 rfl 0 (by decide) (hts (.fieldLink RX3 76 "MarkedTreesModel" "thrown" "I") (by decide +kernel)) (fun _ h9 => h9) rfl (by decide +kernel) rfl rfl (Nat.le_of_ble_eq_true rfl) dX3_bury_2 (fun H locs hW _ hS => ?_)
  have hW : mW G (s1 S 0 0 (nI 0)) H := mp_0_0 hW
  obtain ⟨S_1, eS_1⟩ : ∃ z, z = s1 S 0 0 (nI 0) := ⟨_, rfl⟩
  rw [← eS_1] at hW
  have hT : S_1 = mT S := eS_1
  subst hT
  have hncT : (mT S).1 0 3 = nI nc := (mT_0 _ (by omega)).trans hnc
  refine lv_iload_n hx hb dX3_bury_5 rfl (lv_at hl 1 rfl) ?_
  refine pv_i (va_runS (As := [.int x]) (rest := []) ⟨hx, hb, hml, hown, hts⟩ (k_X3_isPeer l x) (va_cwS 1 hts gX3_bury_X3_isPeer rfl rfl rfl (by decide +kernel) ⟨Nat.le_of_ble_eq_true rfl, Nat.le_of_ble_eq_true rfl⟩) ⟨(fun _ _ _ _ h => h), fun U _ _ => ⟨rfl, trivial⟩⟩ rfl rfl hl.1 rfl (lv_room (Nat.le_of_ble_eq_true rfl)) dX3_bury_6 ⟨Nat.le_of_ble_eq_true rfl, Nat.le_of_ble_eq_true rfl⟩) (fun r_2 hr_2 => ?_)
  have hr_2 : r_2 = bI (isP x) := hr_2
  subst hr_2
  refine bv_if_eq (b := isP x) (tgt := 26) hx hb dX3_bury_9 (by decide) (fun c_9 => ?_) (fun c_9 => ?_)
  · refine lv_aload_n hx hb dX3_bury_26 rfl (lv_at hl 0 rfl) ?_
    refine lv_iconst (v := nI 1) hx hb dX3_bury_27 (by decide) ?_
    refine va_put (D := gD G) (ci := 3) (v := .int (nI 1)) (ty := .int) (C := RX3) (T := TX3) (N := 22) hx hb hts inX3 tyX3 tyX3_ok nmX3 hown hK.1 hW (wl_D hK.2.1) hS 0 mw_0 rfl 0 (by decide) (hts (.fieldLink RX3 76 "MarkedTreesModel" "thrown" "I") (by decide +kernel)) (fun _ h9 => h9) rfl (by decide +kernel) rfl rfl (Nat.le_of_ble_eq_true rfl) dX3_bury_28 (fun H locs hW _ hS => ?_)
    have hW : mW G (s1 (mT S) 0 0 (nI 1)) H := mp_0_0 hW
    obtain ⟨S_3, eS_3⟩ : ∃ z, z = s1 (mT S) 0 0 (nI 1) := ⟨_, rfl⟩
    rw [← eS_3] at hW
    exact W.vret hx hb hr (fun t9 ht9 _ => ⟨⟨S_3, rfl, (by rw [mF_no (by unfold mcBury; rw [if_neg (ne_true_of_eq_false c_9)]) (by decide)]; exact eS_3), (show mW G S_3 t9.heap by rw [ht9]; exact hW)⟩, hS.F ht9⟩) hS.2.2 dX3_bury_31
  · obtain ⟨i_4, hi_4, rfl⟩ := isP_iff.mp c_9
    have cn_i_4 : cn (nI i_4) = i_4 := cn_nI (by omega)
    refine lv_iload_n hx hb dX3_bury_12 rfl (lv_at hl 2 rfl) ?_
    refine lv_iconst (v := nI 0) hx hb dX3_bury_13 (by decide) ?_
    refine lv_aload_n hx hb dX3_bury_14 rfl (lv_at hl 0 rfl) ?_
    refine va_get (D := gD G) (ci := 3) (v := .int (nI nc)) (C := RX3) (T := TX3) (N := 22) hx hb hts inX3 hown hK.1 hW 0 mw_0 rfl 3 (by decide) (hts (.fieldLink RX3 17 "MarkedTreesModel" "nodes" "I") (by decide +kernel)) (fun _ h9 => h9) (by rw [← hncT]; rfl) dX3_bury_15 ?_
    refine lv_iconst (v := nI 1) hx hb dX3_bury_18 (by decide) ?_
    refine nv_isub hx hb (by omega) dX3_bury_19 ?_
    refine pv_i (va_runS (As := [.int y, .int (nI 0), .int (nI (nc - 1))]) (rest := []) ⟨hx, hb, hml, hown, hts⟩ (k_X3_in l y (nI 0) (nI (nc - 1))) (va_cwS 3 hts gX3_bury_X3_in rfl rfl rfl (by decide +kernel) ⟨Nat.le_of_ble_eq_true rfl, Nat.le_of_ble_eq_true rfl⟩) ⟨(fun _ _ _ _ h => h), fun U _ _ => ⟨rfl, trivial⟩⟩ rfl rfl hl.1 rfl (lv_room (Nat.le_of_ble_eq_true rfl)) dX3_bury_20 ⟨Nat.le_of_ble_eq_true rfl, Nat.le_of_ble_eq_true rfl⟩) (fun r_5 hr_5 => ?_)
    have hr_5 : r_5 = bI (inM y (nI 0) (nI (nc - 1))) := hr_5
    subst hr_5
    refine bv_if_ne (b := inM y (nI 0) (nI (nc - 1))) (tgt := 32) hx hb dX3_bury_23 (by decide) (fun c_23 => ?_) (fun c_23 => ?_)
    · have d_23 : inB y nc = true := by have h9 := (inM_B y (n := nc - 1) (by omega)).symm.trans c_23; rwa [Nat.sub_add_cancel (by omega)] at h9
      obtain ⟨n_6, hn_6, rfl⟩ := (inB_iff (by omega)).mp d_23
      have cn_n_6 : cn (nI n_6) = n_6 := cn_nI (by omega)
      refine lv_iload_n hx hb dX3_bury_32 rfl (lv_at hl 2 rfl) ?_
      refine lv_if_ne (tgt := 42) hx hb dX3_bury_33 (by decide) (fun c_33 => ?_) (fun c_33 => ?_)
      · refine lv_iconst (v := nI 1) hx hb dX3_bury_42 (by decide) ?_
        refine lv_iload_n hx hb dX3_bury_43 rfl (lv_at hl 2 rfl) ?_
        refine lv_ishl hx hb dX3_bury_44 ?_
        refine lv_istore (lv' := [(4, .int ((nI 1) <<< ((nI n_6) &&& 31))), (0, .ref (gA G 0)), (1, .int (nI i_4)), (2, .int (nI n_6)), (3, .int (bI db))]) hx hb dX3_bury_45 hl (by decide) rfl (fun ls hl => ?_)
        refine lv_aload_n hx hb dX3_bury_47 rfl (lv_at hl 1 rfl) ?_
        refine va_get (D := gD G) (ci := 3) (v := .ref (gA G 13)) (C := RX3) (T := TX3) (N := 22) hx hb hts inX3 hown hK.1 hW 0 mw_0 rfl 15 (by decide) (hts (.fieldLink RX3 55 "MarkedTreesModel" "buried" "[I") (by decide +kernel)) (fun _ h9 => h9) rfl dX3_bury_48 ?_
        refine lv_iload_n hx hb dX3_bury_51 rfl (lv_at hl 2 rfl) ?_
        refine lv_iload_n hx hb dX3_bury_52 rfl (lv_at hl 4 rfl) ?_
        refine bv_if_eq (b := db) (tgt := 68) hx hb dX3_bury_53 (by decide) (fun c_53 => ?_) (fun c_53 => ?_)
        · refine lv_aload_n hx hb dX3_bury_68 rfl (lv_at hl 1 rfl) ?_
          refine va_get (D := gD G) (ci := 3) (v := .ref (gA G 13)) (C := RX3) (T := TX3) (N := 22) hx hb hts inX3 hown hK.1 hW 0 mw_0 rfl 15 (by decide) (hts (.fieldLink RX3 55 "MarkedTreesModel" "buried" "[I") (by decide +kernel)) (fun _ h9 => h9) rfl dX3_bury_69 ?_
          refine lv_iload_n hx hb dX3_bury_72 rfl (lv_at hl 2 rfl) ?_
          refine nv_iald hx hb hK.1 hW 13 0 mw_13 rfl (i := i_4) (by omega) (by decide) dX3_bury_73 ?_
          refine lv_iload hx hb dX3_bury_74 (lv_at hl 0 rfl) ?_
          refine lv_iconst (v := (-1)) hx hb dX3_bury_76 (by decide) ?_
          refine lv_ixor hx hb dX3_bury_77 ?_
          refine lv_iand hx hb dX3_bury_78 ?_
          refine nv_iast hx hb hK.1 hW (wl_D hK.2.1) hS 13 0 mw_13 rfl (i := i_4) (by omega) (by decide) dX3_bury_79 (fun H locs hW hS => ?_)
          have hW : mW G (s1 (mT S) 13 i_4 (((mT S).1 13 i_4) &&& (((nI 1) <<< ((nI n_6) &&& 31)) ^^^ (-1)))) H := mp_13 hW
          obtain ⟨S_7, eS_7⟩ : ∃ z, z = s1 (mT S) 13 i_4 (((mT S).1 13 i_4) &&& (((nI 1) <<< ((nI n_6) &&& 31)) ^^^ (-1))) := ⟨_, rfl⟩
          rw [← eS_7] at hW
          exact W.vret hx hb hr (fun t9 ht9 _ => ⟨⟨S_7, rfl, (by rw [mF_ok (by unfold mcBury; (try simp only [cn_i_4, cn_n_6]); rw [if_pos (isP_nI hi_4), if_pos d_23, if_neg c_33])]; (try simp only [cn_i_4, cn_n_6]); rw [mdBury, if_neg (ne_true_of_eq_false c_53)]; exact eS_7), (show mW G S_7 t9.heap by rw [ht9]; exact hW)⟩, hS.F ht9⟩) hS.2.2 dX3_bury_80
        · refine lv_aload_n hx hb dX3_bury_56 rfl (lv_at hl 1 rfl) ?_
          refine va_get (D := gD G) (ci := 3) (v := .ref (gA G 13)) (C := RX3) (T := TX3) (N := 22) hx hb hts inX3 hown hK.1 hW 0 mw_0 rfl 15 (by decide) (hts (.fieldLink RX3 55 "MarkedTreesModel" "buried" "[I") (by decide +kernel)) (fun _ h9 => h9) rfl dX3_bury_57 ?_
          refine lv_iload_n hx hb dX3_bury_60 rfl (lv_at hl 2 rfl) ?_
          refine nv_iald hx hb hK.1 hW 13 0 mw_13 rfl (i := i_4) (by omega) (by decide) dX3_bury_61 ?_
          refine lv_iload hx hb dX3_bury_62 (lv_at hl 0 rfl) ?_
          refine lv_ior hx hb dX3_bury_64 ?_
          refine lv_goto (tgt := 79) hx hb dX3_bury_65 (by decide) ?_
          refine nv_iast hx hb hK.1 hW (wl_D hK.2.1) hS 13 0 mw_13 rfl (i := i_4) (by omega) (by decide) dX3_bury_79 (fun H locs hW hS => ?_)
          have hW : mW G (s1 (mT S) 13 i_4 (((mT S).1 13 i_4) ||| ((nI 1) <<< ((nI n_6) &&& 31)))) H := mp_13 hW
          obtain ⟨S_8, eS_8⟩ : ∃ z, z = s1 (mT S) 13 i_4 (((mT S).1 13 i_4) ||| ((nI 1) <<< ((nI n_6) &&& 31))) := ⟨_, rfl⟩
          rw [← eS_8] at hW
          exact W.vret hx hb hr (fun t9 ht9 _ => ⟨⟨S_8, rfl, (by rw [mF_ok (by unfold mcBury; (try simp only [cn_i_4, cn_n_6]); rw [if_pos (isP_nI hi_4), if_pos d_23, if_neg c_33])]; (try simp only [cn_i_4, cn_n_6]); rw [mdBury, if_pos c_53]; exact eS_8), (show mW G S_8 t9.heap by rw [ht9]; exact hW)⟩, hS.F ht9⟩) hS.2.2 dX3_bury_80
      · refine lv_aload_n hx hb dX3_bury_36 rfl (lv_at hl 0 rfl) ?_
        refine lv_iconst (v := nI 2) hx hb dX3_bury_37 (by decide) ?_
        refine va_put (D := gD G) (ci := 3) (v := .int (nI 2)) (ty := .int) (C := RX3) (T := TX3) (N := 22) hx hb hts inX3 tyX3 tyX3_ok nmX3 hown hK.1 hW (wl_D hK.2.1) hS 0 mw_0 rfl 0 (by decide) (hts (.fieldLink RX3 76 "MarkedTreesModel" "thrown" "I") (by decide +kernel)) (fun _ h9 => h9) rfl (by decide +kernel) rfl rfl (Nat.le_of_ble_eq_true rfl) dX3_bury_38 (fun H locs hW _ hS => ?_)
        have hW : mW G (s1 (mT S) 0 0 (nI 2)) H := mp_0_0 hW
        obtain ⟨S_9, eS_9⟩ : ∃ z, z = s1 (mT S) 0 0 (nI 2) := ⟨_, rfl⟩
        rw [← eS_9] at hW
        exact W.vret hx hb hr (fun t9 ht9 _ => ⟨⟨S_9, rfl, (by rw [mF_no (by unfold mcBury; (try simp only [cn_i_4, cn_n_6]); rw [if_pos (isP_nI hi_4), if_pos d_23, if_pos c_33]) (by decide)]; exact eS_9), (show mW G S_9 t9.heap by rw [ht9]; exact hW)⟩, hS.F ht9⟩) hS.2.2 dX3_bury_41
    · have d_23 : inB y nc = false := by have h9 := (inM_B y (n := nc - 1) (by omega)).symm.trans c_23; rwa [Nat.sub_add_cancel (by omega)] at h9
      refine lv_aload_n hx hb dX3_bury_26 rfl (lv_at hl 0 rfl) ?_
      refine lv_iconst (v := nI 1) hx hb dX3_bury_27 (by decide) ?_
      refine va_put (D := gD G) (ci := 3) (v := .int (nI 1)) (ty := .int) (C := RX3) (T := TX3) (N := 22) hx hb hts inX3 tyX3 tyX3_ok nmX3 hown hK.1 hW (wl_D hK.2.1) hS 0 mw_0 rfl 0 (by decide) (hts (.fieldLink RX3 76 "MarkedTreesModel" "thrown" "I") (by decide +kernel)) (fun _ h9 => h9) rfl (by decide +kernel) rfl rfl (Nat.le_of_ble_eq_true rfl) dX3_bury_28 (fun H locs hW _ hS => ?_)
      have hW : mW G (s1 (mT S) 0 0 (nI 1)) H := mp_0_0 hW
      obtain ⟨S_10, eS_10⟩ : ∃ z, z = s1 (mT S) 0 0 (nI 1) := ⟨_, rfl⟩
      rw [← eS_10] at hW
      exact W.vret hx hb hr (fun t9 ht9 _ => ⟨⟨S_10, rfl, (by rw [mF_no (by unfold mcBury; (try simp only [cn_i_4]); rw [if_pos (isP_nI hi_4), if_neg (ne_true_of_eq_false d_23)]) (by decide)]; exact eS_10), (show mW G S_10 t9.heap by rw [ht9]; exact hW)⟩, hS.F ht9⟩) hS.2.2 dX3_bury_31
