set_option maxHeartbeats 4000000 in
set_option maxRecDepth 100000 in
theorem k_X3_merge (l : Launch) (G : GT) (S : SS) (sz : Nat) {rc : Nat} (hrc : S.1 0 1 = nI rc) (h1r : 1 ≤ rc) (h40 : rc ≤ 40) {bi : Nat → Nat} (hbi : ∀ a, a < rc → ∀ n, n < 16 → ti ((mT S).1 4 a) n = true → bi n < 40 ∧ (mT S).1 3 n = nI (bi n)) (x y z : Int32) : Met l yX3_merge wsX3_merge ({ frames := 4, cells := 0, slots := 0, locals := 91 } : Room) (va_Pc [.ref (gA G 0), .int x, .int y, .int z] (fun U => U.heap.size = sz ∧ mP G S U)) (va_Qi (fun r S' => ((mcMerge (mT S) rc x y z) = 0 → r = (mdMerge (mT S) bi rc (cn x) (cn y) (cn z)).1) ∧ S' = mF (mT S) (mcMerge (mT S) rc x y z) ((mdMerge (mT S) bi rc (cn x) (cn y) (cn z)).2)) (mB G) (gF G sz)) 0 0 (gF G sz) := by
  refine Met.ofW (cc := cX3_merge) (maxL := 8) (ret := (some .int)) (by decide) rfl ?_
  intro p e s m args below meth c s₁ B hml hv
  obtain ⟨rfl, hsz, hW, hK⟩ := hv
  subst hsz
  have hx := B.exec
  have hb := B.bytes
  have hr := B.returns
  have hts := atoms_spec (ws := wsX3_merge) B.pre
  have hown : s.vm.findClass RX3 = some m.cls := findClass_of_methodNamed B.named
  have hlocks := B.notSynchronized
  have hS : va_S (gF G s.heap.size) s.heap s.heap [] := va_S.rf
  have inX3 : ∀ w ∈ u_ws RX3 TX3 22, w ∈ wsX3_merge := by decide +kernel
  have hl := lv_entry ([.ref (gA G 0), .int x, .int y, .int z]) (n := 8) (Nat.le_of_ble_eq_true rfl)
  rw [lg_entry_eq]
  generalize (lg_sl ([.ref (gA G 0), .int x, .int y, .int z]) ++ List.replicate (8 - (lg_sl ([.ref (gA G 0), .int x, .int y, .int z])).length) Slot.unset).toArray = ls at hl ⊢
  have hl : lv_has ls 8 [(0, .ref (gA G 0)), (1, .int x), (2, .int y), (3, .int z)] := hl
  refine lv_aload_n hx hb dX3_merge_0 rfl (lv_at hl 0 rfl) ?_
  refine lv_iconst (v := nI 0) hx hb dX3_merge_1 (by decide) ?_
  refine va_put (D := gD G) (ci := 3) (v := .int (nI 0)) (ty := .int) (C := RX3) (T := TX3) (N := 22) hx hb hts inX3 tyX3 tyX3_ok nmX3 hown hK.1 hW (wl_D hK.2.1) hS 0 mw_0 rfl 0 (by decide) (hts (.fieldLink RX3 76 "MarkedTreesModel" "thrown" "I") (by decide +kernel)) (fun _ h9 => h9) rfl (by decide +kernel) rfl rfl (Nat.le_of_ble_eq_true rfl) dX3_merge_2 (fun H locs hW _ hS => ?_)
  have hW : mW G (s1 S 0 0 (nI 0)) H := mp_0_0 hW
  obtain ⟨S_1, eS_1⟩ : ∃ z, z = s1 S 0 0 (nI 0) := ⟨_, rfl⟩
  rw [← eS_1] at hW
  have hT : S_1 = mT S := eS_1
  subst hT
  have hrcT : (mT S).1 0 1 = nI rc := (mT_0 _ (by omega)).trans hrc
  refine lv_iload_n hx hb dX3_merge_5 rfl (lv_at hl 1 rfl) ?_
  refine pv_i (va_runS (As := [.int x]) (rest := []) ⟨hx, hb, hml, hown, hts⟩ (k_X3_isPeer l x) (va_cwS 1 hts gX3_merge_X3_isPeer rfl rfl rfl (by decide +kernel) ⟨Nat.le_of_ble_eq_true rfl, Nat.le_of_ble_eq_true rfl⟩) ⟨(fun _ _ _ _ h => h), fun U _ _ => ⟨rfl, trivial⟩⟩ rfl rfl hl.1 rfl (lv_room (Nat.le_of_ble_eq_true rfl)) dX3_merge_6 ⟨Nat.le_of_ble_eq_true rfl, Nat.le_of_ble_eq_true rfl⟩) (fun r_2 hr_2 => ?_)
  have hr_2 : r_2 = bI (isP x) := hr_2
  subst hr_2
  refine bv_if_eq (b := isP x) (tgt := 52) hx hb dX3_merge_9 (by decide) (fun c_9 => ?_) (fun c_9 => ?_)
  · refine lv_aload_n hx hb dX3_merge_52 rfl (lv_at hl 0 rfl) ?_
    refine lv_iconst (v := nI 1) hx hb dX3_merge_53 (by decide) ?_
    refine ev_i (va_runV (As := [.int (nI 1)]) (rest := []) ⟨hx, hb, hml, hown, hts⟩ (k_X3_fail l G (mT S) H.size (nI 1)) (cwV 1 hts gX3_merge_X3_fail rfl rfl rfl (by decide +kernel) ⟨Nat.le_of_ble_eq_true rfl, Nat.le_of_ble_eq_true rfl⟩) ⟨mQ_blind, m_recv hW hK, mQ_at hW hK hS⟩ rfl rfl hl.1 rfl (lv_room (Nat.le_of_ble_eq_true rfl)) dX3_merge_54 ⟨Nat.le_of_ble_eq_true rfl, Nat.le_of_ble_eq_true rfl⟩) hS (fun r_4 S_3 t9 H locs ht9 hS_3 hW hS => ?_)
    have hW : mW G S_3 H := ht9 ▸ hW
    obtain ⟨rfl, eS_3⟩ := hS_3
    exact W.iret (v := nI 0) hx hb hr (fun t9 ht9 _ => ⟨⟨_, S_3, rfl, ⟨no0 (k := 1) (by unfold mcMerge; rw [if_neg (ne_true_of_eq_false c_9)]) (by decide), (by rw [mF_no (by unfold mcMerge; rw [if_neg (ne_true_of_eq_false c_9)]) (by decide)]; exact eS_3)⟩, (show mW G S_3 t9.heap by rw [ht9]; exact hW)⟩, hS.F ht9⟩) hS.2.2 dX3_merge_57
  · obtain ⟨i_5, hi_5, rfl⟩ := isP_iff.mp c_9
    have cn_i_5 : cn (nI i_5) = i_5 := cn_nI (by omega)
    refine lv_aload_n hx hb dX3_merge_12 rfl (lv_at hl 0 rfl) ?_
    refine lv_iload_n hx hb dX3_merge_13 rfl (lv_at hl 1 rfl) ?_
    refine pv_i (va_runS (As := [.int (nI i_5)]) (rest := [.ref (gA G 0)]) ⟨hx, hb, hml, hown, hts⟩ (k_X3_isPeer l (nI i_5)) (va_cwS 1 hts gX3_merge_X3_isPeer rfl rfl rfl (by decide +kernel) ⟨Nat.le_of_ble_eq_true rfl, Nat.le_of_ble_eq_true rfl⟩) ⟨(fun _ _ _ _ h => h), fun U _ _ => ⟨rfl, trivial⟩⟩ rfl rfl hl.1 rfl (lv_room (Nat.le_of_ble_eq_true rfl)) dX3_merge_14 ⟨Nat.le_of_ble_eq_true rfl, Nat.le_of_ble_eq_true rfl⟩) (fun r_6 hr_6 => ?_)
    have hr_6 : r_6 = bI (isP (nI i_5)) := hr_6
    subst hr_6
    refine bv_if_eq (b := isP (nI i_5)) (tgt := 24) hx hb dX3_merge_17 (by decide) (fun c_17 => ?_) (fun c_17 => ?_)
    · exact absurd (isP_nI hi_5) (ne_true_of_eq_false c_17)
    · refine lv_iload_n hx hb dX3_merge_20 rfl (lv_at hl 1 rfl) ?_
      refine lv_goto (tgt := 25) hx hb dX3_merge_21 (by decide) ?_
      refine lv_iload_n hx hb dX3_merge_25 rfl (lv_at hl 2 rfl) ?_
      refine pv_i (va_runV (As := [.int (nI i_5), .int y]) (rest := []) ⟨hx, hb, hml, hown, hts⟩ (k_X3_hasRevision l G (mT S) (rc := rc) hrcT (by omega) (by omega) (i := i_5) (by omega) y) (cwV 2 hts gX3_merge_X3_hasRevision rfl rfl rfl (by decide +kernel) ⟨Nat.le_of_ble_eq_true rfl, Nat.le_of_ble_eq_true rfl⟩) ⟨mP_blind, m_recv hW hK, mP_at hW hK hS⟩ rfl rfl hl.1 rfl (lv_room (Nat.le_of_ble_eq_true rfl)) dX3_merge_26 ⟨Nat.le_of_ble_eq_true rfl, Nat.le_of_ble_eq_true rfl⟩) (fun r_7 hr_7 => ?_)
      have hr_7 : r_7 = bI (mHas (mT S) rc i_5 y) := hr_7
      subst hr_7
      refine bv_if_eq (b := mHas (mT S) rc i_5 y) (tgt := 52) hx hb dX3_merge_29 (by decide) (fun c_29 => ?_) (fun c_29 => ?_)
      · refine lv_aload_n hx hb dX3_merge_52 rfl (lv_at hl 0 rfl) ?_
        refine lv_iconst (v := nI 1) hx hb dX3_merge_53 (by decide) ?_
        refine ev_i (va_runV (As := [.int (nI 1)]) (rest := []) ⟨hx, hb, hml, hown, hts⟩ (k_X3_fail l G (mT S) H.size (nI 1)) (cwV 1 hts gX3_merge_X3_fail rfl rfl rfl (by decide +kernel) ⟨Nat.le_of_ble_eq_true rfl, Nat.le_of_ble_eq_true rfl⟩) ⟨mQ_blind, m_recv hW hK, mQ_at hW hK hS⟩ rfl rfl hl.1 rfl (lv_room (Nat.le_of_ble_eq_true rfl)) dX3_merge_54 ⟨Nat.le_of_ble_eq_true rfl, Nat.le_of_ble_eq_true rfl⟩) hS (fun r_9 S_8 t9 H locs ht9 hS_8 hW hS => ?_)
        have hW : mW G S_8 H := ht9 ▸ hW
        obtain ⟨rfl, eS_8⟩ := hS_8
        exact W.iret (v := nI 0) hx hb hr (fun t9 ht9 _ => ⟨⟨_, S_8, rfl, ⟨no0 (k := 1) (by unfold mcMerge; (try simp only [cn_i_5]); rw [if_pos (isP_nI hi_5), if_neg (ne_true_of_eq_false c_29)]) (by decide), (by rw [mF_no (by unfold mcMerge; (try simp only [cn_i_5]); rw [if_pos (isP_nI hi_5), if_neg (ne_true_of_eq_false c_29)]) (by decide)]; exact eS_8)⟩, (show mW G S_8 t9.heap by rw [ht9]; exact hW)⟩, hS.F ht9⟩) hS.2.2 dX3_merge_57
      · obtain ⟨a_10, ha_10, rfl, hb_29⟩ := mHas_of (by omega) c_29
        have cn_a_10 : cn (nI a_10) = a_10 := cn_nI (by omega)
        refine lv_aload_n hx hb dX3_merge_32 rfl (lv_at hl 0 rfl) ?_
        refine lv_iload_n hx hb dX3_merge_33 rfl (lv_at hl 1 rfl) ?_
        refine pv_i (va_runS (As := [.int (nI i_5)]) (rest := [.ref (gA G 0)]) ⟨hx, hb, hml, hown, hts⟩ (k_X3_isPeer l (nI i_5)) (va_cwS 1 hts gX3_merge_X3_isPeer rfl rfl rfl (by decide +kernel) ⟨Nat.le_of_ble_eq_true rfl, Nat.le_of_ble_eq_true rfl⟩) ⟨(fun _ _ _ _ h => h), fun U _ _ => ⟨rfl, trivial⟩⟩ rfl rfl hl.1 rfl (lv_room (Nat.le_of_ble_eq_true rfl)) dX3_merge_34 ⟨Nat.le_of_ble_eq_true rfl, Nat.le_of_ble_eq_true rfl⟩) (fun r_11 hr_11 => ?_)
        have hr_11 : r_11 = bI (isP (nI i_5)) := hr_11
        subst hr_11
        refine bv_if_eq (b := isP (nI i_5)) (tgt := 44) hx hb dX3_merge_37 (by decide) (fun c_37 => ?_) (fun c_37 => ?_)
        · exact absurd (isP_nI hi_5) (ne_true_of_eq_false c_37)
        · refine lv_iload_n hx hb dX3_merge_40 rfl (lv_at hl 1 rfl) ?_
          refine lv_goto (tgt := 45) hx hb dX3_merge_41 (by decide) ?_
          refine lv_iload_n hx hb dX3_merge_45 rfl (lv_at hl 3 rfl) ?_
          refine pv_i (va_runV (As := [.int (nI i_5), .int z]) (rest := []) ⟨hx, hb, hml, hown, hts⟩ (k_X3_hasRevision l G (mT S) (rc := rc) hrcT (by omega) (by omega) (i := i_5) (by omega) z) (cwV 2 hts gX3_merge_X3_hasRevision rfl rfl rfl (by decide +kernel) ⟨Nat.le_of_ble_eq_true rfl, Nat.le_of_ble_eq_true rfl⟩) ⟨mP_blind, m_recv hW hK, mP_at hW hK hS⟩ rfl rfl hl.1 rfl (lv_room (Nat.le_of_ble_eq_true rfl)) dX3_merge_46 ⟨Nat.le_of_ble_eq_true rfl, Nat.le_of_ble_eq_true rfl⟩) (fun r_12 hr_12 => ?_)
          have hr_12 : r_12 = bI (mHas (mT S) rc i_5 z) := hr_12
          subst hr_12
          refine bv_if_ne (b := mHas (mT S) rc i_5 z) (tgt := 58) hx hb dX3_merge_49 (by decide) (fun c_49 => ?_) (fun c_49 => ?_)
          · obtain ⟨b_13, hb_13, rfl, hb_49⟩ := mHas_of (by omega) c_49
            have cn_b_13 : cn (nI b_13) = b_13 := cn_nI (by omega)
            refine lv_aload_n hx hb dX3_merge_58 rfl (lv_at hl 0 rfl) ?_
            refine lv_iload_n hx hb dX3_merge_59 rfl (lv_at hl 2 rfl) ?_
            refine lv_iload_n hx hb dX3_merge_60 rfl (lv_at hl 3 rfl) ?_
            refine pv_i (va_runV (As := [.int (nI a_10), .int (nI b_13)]) (rest := []) ⟨hx, hb, hml, hown, hts⟩ (k_X3_known l G (mT S) (a := a_10) (r0 := b_13) (by omega) (by omega)) (cwV 2 hts gX3_merge_X3_known rfl rfl rfl (by decide +kernel) ⟨Nat.le_of_ble_eq_true rfl, Nat.le_of_ble_eq_true rfl⟩) ⟨mP_blind, m_recv hW hK, mP_at hW hK hS⟩ rfl rfl hl.1 rfl (lv_room (Nat.le_of_ble_eq_true rfl)) dX3_merge_61 ⟨Nat.le_of_ble_eq_true rfl, Nat.le_of_ble_eq_true rfl⟩) (fun r_14 hr_14 => ?_)
            have hr_14 : r_14 = bI (mKn (mT S) a_10 b_13) := hr_14
            subst hr_14
            refine bv_if_ne (b := mKn (mT S) a_10 b_13) (tgt := 76) hx hb dX3_merge_64 (by decide) (fun c_64 => ?_) (fun c_64 => ?_)
            · refine lv_aload_n hx hb dX3_merge_76 rfl (lv_at hl 0 rfl) ?_
              refine lv_iconst (v := nI 2) hx hb dX3_merge_77 (by decide) ?_
              refine ev_i (va_runV (As := [.int (nI 2)]) (rest := []) ⟨hx, hb, hml, hown, hts⟩ (k_X3_fail l G (mT S) H.size (nI 2)) (cwV 1 hts gX3_merge_X3_fail rfl rfl rfl (by decide +kernel) ⟨Nat.le_of_ble_eq_true rfl, Nat.le_of_ble_eq_true rfl⟩) ⟨mQ_blind, m_recv hW hK, mQ_at hW hK hS⟩ rfl rfl hl.1 rfl (lv_room (Nat.le_of_ble_eq_true rfl)) dX3_merge_78 ⟨Nat.le_of_ble_eq_true rfl, Nat.le_of_ble_eq_true rfl⟩) hS (fun r_16 S_15 t9 H locs ht9 hS_15 hW hS => ?_)
              have hW : mW G S_15 H := ht9 ▸ hW
              obtain ⟨rfl, eS_15⟩ := hS_15
              exact W.iret (v := nI 0) hx hb hr (fun t9 ht9 _ => ⟨⟨_, S_15, rfl, ⟨no0 (k := 2) (by unfold mcMerge; (try simp only [cn_i_5, cn_a_10, cn_b_13]); rw [if_pos (isP_nI hi_5), if_pos c_29, if_pos c_49, if_pos c_64]) (by decide), (by rw [mF_no (by unfold mcMerge; (try simp only [cn_i_5, cn_a_10, cn_b_13]); rw [if_pos (isP_nI hi_5), if_pos c_29, if_pos c_49, if_pos c_64]) (by decide)]; exact eS_15)⟩, (show mW G S_15 t9.heap by rw [ht9]; exact hW)⟩, hS.F ht9⟩) hS.2.2 dX3_merge_81
            · refine lv_aload_n hx hb dX3_merge_67 rfl (lv_at hl 0 rfl) ?_
              refine lv_iload_n hx hb dX3_merge_68 rfl (lv_at hl 3 rfl) ?_
              refine lv_iload_n hx hb dX3_merge_69 rfl (lv_at hl 2 rfl) ?_
              refine pv_i (va_runV (As := [.int (nI b_13), .int (nI a_10)]) (rest := []) ⟨hx, hb, hml, hown, hts⟩ (k_X3_known l G (mT S) (a := b_13) (r0 := a_10) (by omega) (by omega)) (cwV 2 hts gX3_merge_X3_known rfl rfl rfl (by decide +kernel) ⟨Nat.le_of_ble_eq_true rfl, Nat.le_of_ble_eq_true rfl⟩) ⟨mP_blind, m_recv hW hK, mP_at hW hK hS⟩ rfl rfl hl.1 rfl (lv_room (Nat.le_of_ble_eq_true rfl)) dX3_merge_70 ⟨Nat.le_of_ble_eq_true rfl, Nat.le_of_ble_eq_true rfl⟩) (fun r_17 hr_17 => ?_)
              have hr_17 : r_17 = bI (mKn (mT S) b_13 a_10) := hr_17
              subst hr_17
              refine bv_if_eq (b := mKn (mT S) b_13 a_10) (tgt := 82) hx hb dX3_merge_73 (by decide) (fun c_73 => ?_) (fun c_73 => ?_)
              · refine lv_aload_n hx hb dX3_merge_82 rfl (lv_at hl 0 rfl) ?_
                refine va_get (D := gD G) (ci := 3) (v := .int (nI rc)) (C := RX3) (T := TX3) (N := 22) hx hb hts inX3 hown hK.1 hW 0 mw_0 rfl 1 (by decide) (hts (.fieldLink RX3 7 "MarkedTreesModel" "revisions" "I") (by decide +kernel)) (fun _ h9 => h9) (by rw [← hrcT]; rfl) dX3_merge_83 ?_
                refine lv_bipush (v := nI 40) hx hb dX3_merge_86 (by decide) ?_
                refine nv_icmp_ne (tgt := 97) hx hb (by omega) (by omega) dX3_merge_88 (by decide) (fun c_88 => ?_) (fun c_88 => ?_)
                · refine lv_aload_n hx hb dX3_merge_97 rfl (lv_at hl 0 rfl) ?_
                  refine va_get (D := gD G) (ci := 3) (v := .int (nI rc)) (C := RX3) (T := TX3) (N := 22) hx hb hts inX3 hown hK.1 hW 0 mw_0 rfl 1 (by decide) (hts (.fieldLink RX3 7 "MarkedTreesModel" "revisions" "I") (by decide +kernel)) (fun _ h9 => h9) (by rw [← hrcT]; rfl) dX3_merge_98 ?_
                  refine lv_istore (lv' := [(4, .int (nI rc)), (0, .ref (gA G 0)), (1, .int (nI i_5)), (2, .int (nI a_10)), (3, .int (nI b_13))]) hx hb dX3_merge_101 hl (by decide) rfl (fun ls hl => ?_)
                  refine lv_aload_n hx hb dX3_merge_103 rfl (lv_at hl 1 rfl) ?_
                  refine va_get (D := gD G) (ci := 3) (v := .ref (gA G 4)) (C := RX3) (T := TX3) (N := 22) hx hb hts inX3 hown hK.1 hW 0 mw_0 rfl 6 (by decide) (hts (.fieldLink RX3 28 "MarkedTreesModel" "alive" "[I") (by decide +kernel)) (fun _ h9 => h9) rfl dX3_merge_104 ?_
                  refine lv_bipush (v := nI 42) hx hb dX3_merge_107 (by decide) ?_
                  refine lv_aload_n hx hb dX3_merge_109 rfl (lv_at hl 1 rfl) ?_
                  refine lv_iload_n hx hb dX3_merge_110 rfl (lv_at hl 2 rfl) ?_
                  refine lv_iload_n hx hb dX3_merge_111 rfl (lv_at hl 3 rfl) ?_
                  refine lv_iload_n hx hb dX3_merge_112 rfl (lv_at hl 4 rfl) ?_
                  refine pv_i (va_runV (As := [.int (nI i_5), .int (nI a_10), .int (nI b_13)]) (rest := [.int (nI 42), .ref (gA G 4)]) ⟨hx, hb, hml, hown, hts⟩ (k_X3_mergedAlive l G (mT S) (i := i_5) (by omega) (a := a_10) (b := b_13) (by omega) (by omega) (bi := bi) (fun n h1 h2 => h2.elim (fun z => hbi a_10 ha_10 n h1 z) (fun z => hbi b_13 hb_13 n h1 z))) (cwV 3 hts gX3_merge_X3_mergedAlive rfl rfl rfl (by decide +kernel) ⟨Nat.le_of_ble_eq_true rfl, Nat.le_of_ble_eq_true rfl⟩) ⟨mP_blind, m_recv hW hK, mP_at hW hK hS⟩ rfl rfl hl.1 rfl (lv_room (Nat.le_of_ble_eq_true rfl)) dX3_merge_113 ⟨Nat.le_of_ble_eq_true rfl, Nat.le_of_ble_eq_true rfl⟩) (fun r_18 hr_18 => ?_)
                  have hr_18 : r_18 = maG (mT S) bi i_5 a_10 b_13 15 1 (nI 1) := hr_18
                  subst hr_18
                  refine nv_iast hx hb hK.1 hW (wl_D hK.2.1) hS 4 0 mw_4 rfl (i := 42) (by omega) (by decide) dX3_merge_116 (fun H locs hW hS => ?_)
                  have hW : mW G (s1 (mT S) 4 42 (maG (mT S) bi i_5 a_10 b_13 15 1 (nI 1))) H := mp_4 hW
                  obtain ⟨S_19, eS_19⟩ : ∃ z, z = s1 (mT S) 4 42 (maG (mT S) bi i_5 a_10 b_13 15 1 (nI 1)) := ⟨_, rfl⟩
                  rw [← eS_19] at hW
                  refine lv_iconst (v := nI 1) hx hb dX3_merge_117 (by decide) ?_
                  refine lv_istore (lv' := [(5, .int (nI 1)), (4, .int (nI rc)), (0, .ref (gA G 0)), (1, .int (nI i_5)), (2, .int (nI a_10)), (3, .int (nI b_13))]) hx hb dX3_merge_118 hl (by decide) rfl (fun ls hl => ?_)
                  have LP : ∀ (k : Nat) (n : Nat) (Q : SS) (H : Heap) (locs : List Loc), (mW G Q H) → (va_S (gF G s.heap.size) s.heap H locs) → (1 ≤ n) → (n + k = 16) → ∀ (ls : Array Slot), lv_has ls 8 [(0, .ref (gA G 0)), (1, .int (nI i_5)), (2, .int (nI a_10)), (3, .int (nI b_13)), (4, .int (nI rc)), (5, .int (nI n))] → W p l e (headSpec wsX3_merge ({ frames := 4, cells := 0, slots := 0, locals := 91 } : Room)).room s m ([.ref (gA G 0), .int (nI i_5), .int (nI a_10), .int (nI b_13)] : List Value).toArray below meth c H locs 0 0 (MQ below (va_Qi (fun r S' => ((mcMerge (mT S) rc (nI i_5) (nI a_10) (nI b_13)) = 0 → r = (if 0 < (mlcG i_5 15 1 (s1 (mmN i_5 a_10 b_13 rc k n Q) 16 i_5 (nI 0), 0)).2 then ((-nI (mlcG i_5 15 1 (s1 (mmN i_5 a_10 b_13 rc k n Q) 16 i_5 (nI 0), 0)).2 : Int32), (mlcG i_5 15 1 (s1 (mmN i_5 a_10 b_13 rc k n Q) 16 i_5 (nI 0), 0)).1) else (nI rc, mdcG i_5 48 0 (mm3 (mlcG i_5 15 1 (s1 (mmN i_5 a_10 b_13 rc k n Q) 16 i_5 (nI 0), 0)).1 rc i_5 a_10 b_13))).1) ∧ S' = (if 0 < (mlcG i_5 15 1 (s1 (mmN i_5 a_10 b_13 rc k n Q) 16 i_5 (nI 0), 0)).2 then ((-nI (mlcG i_5 15 1 (s1 (mmN i_5 a_10 b_13 rc k n Q) 16 i_5 (nI 0), 0)).2 : Int32), (mlcG i_5 15 1 (s1 (mmN i_5 a_10 b_13 rc k n Q) 16 i_5 (nI 0), 0)).1) else (nI rc, mdcG i_5 48 0 (mm3 (mlcG i_5 15 1 (s1 (mmN i_5 a_10 b_13 rc k n Q) 16 i_5 (nI 0), 0)).1 rc i_5 a_10 b_13))).2) (mB G) (gF G s.heap.size)) ([.ref (gA G 0), .int (nI i_5), .int (nI a_10), .int (nI b_13)] : List Value).toArray s 0 0 (gF G s.heap.size)) (F0 m 120 ls []) := by
                    intro k
                    induction k with
                    | zero =>
                      intro n Q H locs hW hS h1 h2 ls hl
                      refine lv_iload hx hb dX3_merge_120 (lv_at hl 5 rfl) ?_
                      refine lv_bipush (v := nI 16) hx hb dX3_merge_122 (by decide) ?_
                      refine nv_icmp_ge (tgt := 222) hx hb (by omega) (by omega) dX3_merge_124 (by decide) (fun c_124 => ?_) (fun c_124 => ?_)
                      · refine lv_aload_n hx hb dX3_merge_222 rfl (lv_at hl 0 rfl) ?_
                        refine lv_iload_n hx hb dX3_merge_223 rfl (lv_at hl 1 rfl) ?_
                        refine ev_v (va_runV (As := [.int (nI i_5)]) (rest := []) ⟨hx, hb, hml, hown, hts⟩ (k_X3_listConflicts l G Q H.size (i := i_5) (by omega)) (cwV 1 hts gX3_merge_X3_listConflicts rfl rfl rfl (by decide +kernel) ⟨Nat.le_of_ble_eq_true rfl, Nat.le_of_ble_eq_true rfl⟩) ⟨mQ_blind, m_recv hW hK, mQ_at hW hK hS⟩ rfl rfl hl.1 rfl (lv_room (Nat.le_of_ble_eq_true rfl)) dX3_merge_224 ⟨Nat.le_of_ble_eq_true rfl, Nat.le_of_ble_eq_true rfl⟩) hS (fun S_20 t9 H locs ht9 hS_20 hW hS => ?_)
                        have hW : mW G S_20 H := ht9 ▸ hW
                        obtain ⟨q9, eq9⟩ : ∃ z, z = mlcG i_5 15 1 (s1 (Q) 16 i_5 (nI 0), 0) := ⟨_, rfl⟩
                        have hm9 : S_20 = q9.1 ∧ S_20.1 16 i_5 = nI q9.2 ∧ q9.2 ≤ 60 := by rw [eq9]; exact hS_20
                        have hq60 := hm9.2.2
                        have Eq : mlcG i_5 15 1 (s1 (Q) 16 i_5 (nI 0), 0) = q9 := eq9.symm
                        simp only [show mmN i_5 a_10 b_13 rc 0 n Q = Q from rfl, Eq]
                        refine lv_aload_n hx hb dX3_merge_227 rfl (lv_at hl 0 rfl) ?_
                        refine va_get (D := gD G) (ci := 3) (v := .ref (gA G 16)) (C := RX3) (T := TX3) (N := 22) hx hb hts inX3 hown hK.1 hW 0 mw_0 rfl 18 (by decide) (hts (.fieldLink RX3 64 "MarkedTreesModel" "listed" "[I") (by decide +kernel)) (fun _ h9 => h9) rfl dX3_merge_228 ?_
                        refine lv_iload_n hx hb dX3_merge_231 rfl (lv_at hl 1 rfl) ?_
                        refine nv_iald hx hb hK.1 hW 16 0 mw_16 rfl (i := i_5) (by omega) (by decide) dX3_merge_232 ?_
                        refine lv_rwi hm9.2.1 ?_
                        refine lv_if_le (tgt := 244) hx hb dX3_merge_233 (by decide) (fun c_233 => ?_) (fun c_233 => ?_)
                        · refine lv_aload_n hx hb dX3_merge_244 rfl (lv_at hl 0 rfl) ?_
                          refine lv_bipush (v := nI 42) hx hb dX3_merge_245 (by decide) ?_
                          refine lv_iload hx hb dX3_merge_247 (lv_at hl 4 rfl) ?_
                          refine ev_v (va_runV (As := [.int (nI 42), .int (nI rc)]) (rest := []) ⟨hx, hb, hml, hown, hts⟩ (k_X3_copyTree l G S_20 H.size (f := 42) (t := rc) (by omega) (by omega)) (cwV 2 hts gX3_merge_X3_copyTree rfl rfl rfl (by decide +kernel) ⟨Nat.le_of_ble_eq_true rfl, Nat.le_of_ble_eq_true rfl⟩) ⟨mQ_blind, m_recv hW hK, mQ_at hW hK hS⟩ rfl rfl hl.1 rfl (lv_room (Nat.le_of_ble_eq_true rfl)) dX3_merge_249 ⟨Nat.le_of_ble_eq_true rfl, Nat.le_of_ble_eq_true rfl⟩) hS (fun S_21 t9 H locs ht9 hS_21 hW hS => ?_)
                          have hW : mW G S_21 H := ht9 ▸ hW
                          refine lv_aload_n hx hb dX3_merge_252 rfl (lv_at hl 0 rfl) ?_
                          refine lv_dup hx hb dX3_merge_253 rfl ?_
                          refine va_get (D := gD G) (ci := 3) (v := .int (S_21.1 0 1)) (C := RX3) (T := TX3) (N := 22) hx hb hts inX3 hown hK.1 hW 0 mw_0 rfl 1 (by decide) (hts (.fieldLink RX3 7 "MarkedTreesModel" "revisions" "I") (by decide +kernel)) (fun _ h9 => h9) rfl dX3_merge_254 ?_
                          refine lv_iconst (v := nI 1) hx hb dX3_merge_257 (by decide) ?_
                          refine lv_iadd hx hb dX3_merge_258 ?_
                          refine va_put (D := gD G) (ci := 3) (v := .int ((S_21.1 0 1) + (nI 1))) (ty := .int) (C := RX3) (T := TX3) (N := 22) hx hb hts inX3 tyX3 tyX3_ok nmX3 hown hK.1 hW (wl_D hK.2.1) hS 0 mw_0 rfl 1 (by decide) (hts (.fieldLink RX3 7 "MarkedTreesModel" "revisions" "I") (by decide +kernel)) (fun _ h9 => h9) rfl (by decide +kernel) rfl rfl (Nat.le_of_ble_eq_true rfl) dX3_merge_259 (fun H locs hW _ hS => ?_)
                          have hW : mW G (s1 S_21 0 1 ((S_21.1 0 1) + (nI 1))) H := mp_0_1 hW
                          obtain ⟨S_22, eS_22⟩ : ∃ z, z = s1 S_21 0 1 ((S_21.1 0 1) + (nI 1)) := ⟨_, rfl⟩
                          rw [← eS_22] at hW
                          refine lv_aload_n hx hb dX3_merge_262 rfl (lv_at hl 0 rfl) ?_
                          refine va_get (D := gD G) (ci := 3) (v := .ref (gA G 1)) (C := RX3) (T := TX3) (N := 22) hx hb hts inX3 hown hK.1 hW 0 mw_0 rfl 2 (by decide) (hts (.fieldLink RX3 13 "MarkedTreesModel" "ancestors" "[J") (by decide +kernel)) (fun _ h9 => h9) rfl dX3_merge_263 ?_
                          refine lv_iload hx hb dX3_merge_266 (lv_at hl 4 rfl) ?_
                          refine lv_aload_n hx hb dX3_merge_268 rfl (lv_at hl 0 rfl) ?_
                          refine va_get (D := gD G) (ci := 3) (v := .ref (gA G 1)) (C := RX3) (T := TX3) (N := 22) hx hb hts inX3 hown hK.1 hW 0 mw_0 rfl 2 (by decide) (hts (.fieldLink RX3 13 "MarkedTreesModel" "ancestors" "[J") (by decide +kernel)) (fun _ h9 => h9) rfl dX3_merge_269 ?_
                          refine lv_iload_n hx hb dX3_merge_272 rfl (lv_at hl 2 rfl) ?_
                          refine nv_lald hx hb hK.1 hW 1 1 mw_1 rfl (i := a_10) (by omega) (by decide) dX3_merge_273 ?_
                          refine lv_aload_n hx hb dX3_merge_274 rfl (lv_at hl 0 rfl) ?_
                          refine va_get (D := gD G) (ci := 3) (v := .ref (gA G 1)) (C := RX3) (T := TX3) (N := 22) hx hb hts inX3 hown hK.1 hW 0 mw_0 rfl 2 (by decide) (hts (.fieldLink RX3 13 "MarkedTreesModel" "ancestors" "[J") (by decide +kernel)) (fun _ h9 => h9) rfl dX3_merge_275 ?_
                          refine lv_iload_n hx hb dX3_merge_278 rfl (lv_at hl 3 rfl) ?_
                          refine nv_lald hx hb hK.1 hW 1 1 mw_1 rfl (i := b_13) (by omega) (by decide) dX3_merge_279 ?_
                          refine lv_lor hx hb dX3_merge_280 ?_
                          refine lv_lconst (v := 1) hx hb dX3_merge_281 (by decide) ?_
                          refine lv_iload_n hx hb dX3_merge_282 rfl (lv_at hl 2 rfl) ?_
                          refine lv_lshl (v := 1 <<< ((nI a_10).toInt64 &&& 63)) hx hb dX3_merge_283 rfl ?_
                          refine lv_lor hx hb dX3_merge_284 ?_
                          refine lv_lconst (v := 1) hx hb dX3_merge_285 (by decide) ?_
                          refine lv_iload_n hx hb dX3_merge_286 rfl (lv_at hl 3 rfl) ?_
                          refine lv_lshl (v := 1 <<< ((nI b_13).toInt64 &&& 63)) hx hb dX3_merge_287 rfl ?_
                          refine lv_lor hx hb dX3_merge_288 ?_
                          refine nv_last hx hb hK.1 hW (wl_D hK.2.1) hS 1 1 mw_1 rfl (i := rc) (by omega) (by decide) dX3_merge_289 (fun H locs hW hS => ?_)
                          have hW : mW G (s2 S_22 1 rc ((((S_22.2 1 a_10) ||| (S_22.2 1 b_13)) ||| (1 <<< ((nI a_10).toInt64 &&& 63))) ||| (1 <<< ((nI b_13).toInt64 &&& 63)))) H := mp_1 hW
                          obtain ⟨S_23, eS_23⟩ : ∃ z, z = s2 S_22 1 rc ((((S_22.2 1 a_10) ||| (S_22.2 1 b_13)) ||| (1 <<< ((nI a_10).toInt64 &&& 63))) ||| (1 <<< ((nI b_13).toInt64 &&& 63))) := ⟨_, rfl⟩
                          rw [← eS_23] at hW
                          refine lv_aload_n hx hb dX3_merge_290 rfl (lv_at hl 0 rfl) ?_
                          refine va_get (D := gD G) (ci := 3) (v := .ref (gA G 10)) (C := RX3) (T := TX3) (N := 22) hx hb hts inX3 hown hK.1 hW 0 mw_0 rfl 12 (by decide) (hts (.fieldLink RX3 46 "MarkedTreesModel" "have" "[J") (by decide +kernel)) (fun _ h9 => h9) rfl dX3_merge_291 ?_
                          refine lv_iload_n hx hb dX3_merge_294 rfl (lv_at hl 1 rfl) ?_
                          refine lv_dup2_11 hx hb dX3_merge_295 rfl rfl ?_
                          refine nv_lald hx hb hK.1 hW 10 1 mw_10 rfl (i := i_5) (by omega) (by decide) dX3_merge_296 ?_
                          refine lv_lconst (v := 1) hx hb dX3_merge_297 (by decide) ?_
                          refine lv_iload hx hb dX3_merge_298 (lv_at hl 4 rfl) ?_
                          refine lv_lshl (v := 1 <<< ((nI rc).toInt64 &&& 63)) hx hb dX3_merge_300 rfl ?_
                          refine lv_lor hx hb dX3_merge_301 ?_
                          refine nv_last hx hb hK.1 hW (wl_D hK.2.1) hS 10 1 mw_10 rfl (i := i_5) (by omega) (by decide) dX3_merge_302 (fun H locs hW hS => ?_)
                          have hW : mW G (s2 S_23 10 i_5 ((S_23.2 10 i_5) ||| (1 <<< ((nI rc).toInt64 &&& 63)))) H := mp_10 hW
                          obtain ⟨S_24, eS_24⟩ : ∃ z, z = s2 S_23 10 i_5 ((S_23.2 10 i_5) ||| (1 <<< ((nI rc).toInt64 &&& 63))) := ⟨_, rfl⟩
                          rw [← eS_24] at hW
                          refine lv_aload_n hx hb dX3_merge_303 rfl (lv_at hl 0 rfl) ?_
                          refine va_get (D := gD G) (ci := 3) (v := .ref (gA G 13)) (C := RX3) (T := TX3) (N := 22) hx hb hts inX3 hown hK.1 hW 0 mw_0 rfl 15 (by decide) (hts (.fieldLink RX3 55 "MarkedTreesModel" "buried" "[I") (by decide +kernel)) (fun _ h9 => h9) rfl dX3_merge_304 ?_
                          refine lv_iload_n hx hb dX3_merge_307 rfl (lv_at hl 1 rfl) ?_
                          refine lv_iconst (v := nI 0) hx hb dX3_merge_308 (by decide) ?_
                          refine nv_iast hx hb hK.1 hW (wl_D hK.2.1) hS 13 0 mw_13 rfl (i := i_5) (by omega) (by decide) dX3_merge_309 (fun H locs hW hS => ?_)
                          have hW : mW G (s1 S_24 13 i_5 (nI 0)) H := mp_13 hW
                          obtain ⟨S_25, eS_25⟩ : ∃ z, z = s1 S_24 13 i_5 (nI 0) := ⟨_, rfl⟩
                          rw [← eS_25] at hW
                          refine lv_iconst (v := nI 0) hx hb dX3_merge_310 (by decide) ?_
                          refine lv_istore (lv' := [(5, .int (nI 0)), (0, .ref (gA G 0)), (1, .int (nI i_5)), (2, .int (nI a_10)), (3, .int (nI b_13)), (4, .int (nI rc))]) hx hb dX3_merge_311 hl (by decide) rfl (fun ls hl => ?_)
                          have LD : ∀ (k3 : Nat) (j : Nat) (Q3 : SS) (H : Heap) (locs : List Loc), (mW G Q3 H) → (va_S (gF G s.heap.size) s.heap H locs) → (j + k3 = 48) → ∀ (ls : Array Slot), lv_has ls 8 [(0, .ref (gA G 0)), (1, .int (nI i_5)), (4, .int (nI rc)), (5, .int (nI j))] → W p l e (headSpec wsX3_merge ({ frames := 4, cells := 0, slots := 0, locals := 91 } : Room)).room s m ([.ref (gA G 0), .int (nI i_5), .int (nI a_10), .int (nI b_13)] : List Value).toArray below meth c H locs 0 0 (MQ below (va_Qi (fun r S' => ((mcMerge (mT S) rc (nI i_5) (nI a_10) (nI b_13)) = 0 → r = nI rc) ∧ S' = mdcG i_5 k3 j Q3) (mB G) (gF G s.heap.size)) ([.ref (gA G 0), .int (nI i_5), .int (nI a_10), .int (nI b_13)] : List Value).toArray s 0 0 (gF G s.heap.size)) (F0 m 313 ls []) := by
                            intro k3
                            induction k3 with
                            | zero =>
                              intro j Q3 H locs hW hS h5 ls hl
                              refine lv_iload hx hb dX3_merge_313 (lv_at hl 3 rfl) ?_
                              refine lv_bipush (v := nI 48) hx hb dX3_merge_315 (by decide) ?_
                              refine nv_icmp_ge (tgt := 339) hx hb (by omega) (by omega) dX3_merge_317 (by decide) (fun c_317 => ?_) (fun c_317 => ?_)
                              · refine lv_iload hx hb dX3_merge_339 (lv_at hl 2 rfl) ?_
                                exact W.iret (v := nI rc) hx hb hr (fun t9 ht9 _ => ⟨⟨_, Q3, rfl, ⟨fun _ => rfl, rfl⟩, (show mW G Q3 t9.heap by rw [ht9]; exact hW)⟩, hS.F ht9⟩) hS.2.2 dX3_merge_341
                              · exact absurd c_317 (by omega)
                            | succ k3 ih3 =>
                              intro j Q3 H locs hW hS h5 ls hl
                              refine lv_iload hx hb dX3_merge_313 (lv_at hl 3 rfl) ?_
                              refine lv_bipush (v := nI 48) hx hb dX3_merge_315 (by decide) ?_
                              refine nv_icmp_ge (tgt := 339) hx hb (by omega) (by omega) dX3_merge_317 (by decide) (fun c_317 => ?_) (fun c_317 => ?_)
                              · exact absurd c_317 (by omega)
                              · refine lv_aload_n hx hb dX3_merge_320 rfl (lv_at hl 0 rfl) ?_
                                refine va_get (D := gD G) (ci := 3) (v := .ref (gA G 12)) (C := RX3) (T := TX3) (N := 22) hx hb hts inX3 hown hK.1 hW 0 mw_0 rfl 14 (by decide) (hts (.fieldLink RX3 52 "MarkedTreesModel" "decided" "[I") (by decide +kernel)) (fun _ h9 => h9) rfl dX3_merge_321 ?_
                                refine lv_bipush (v := nI 48) hx hb dX3_merge_324 (by decide) ?_
                                refine lv_iload_n hx hb dX3_merge_326 rfl (lv_at hl 1 rfl) ?_
                                refine nv_imul hx hb dX3_merge_327 ?_
                                refine lv_iload hx hb dX3_merge_328 (lv_at hl 3 rfl) ?_
                                refine nv_iadd hx hb dX3_merge_330 ?_
                                refine lv_iconst (v := (-1)) hx hb dX3_merge_331 (by decide) ?_
                                refine nv_iast hx hb hK.1 hW (wl_D hK.2.1) hS 12 0 mw_12 rfl (i := (48 * i_5) + j) (by omega) (by decide) dX3_merge_332 (fun H locs hW hS => ?_)
                                have hW : mW G (s1 Q3 12 ((48 * i_5) + j) (-1)) H := mp_12 hW
                                obtain ⟨S_26, eS_26⟩ : ∃ z, z = s1 Q3 12 ((48 * i_5) + j) (-1) := ⟨_, rfl⟩
                                rw [← eS_26] at hW
                                refine lv_iinc (v := nI (j + 1)) (lv' := [(5, .int (nI (j + 1))), (0, .ref (gA G 0)), (1, .int (nI i_5)), (4, .int (nI rc))]) hx hb dX3_merge_333 hl (k := 3) rfl (nI_add j 1) (by decide) rfl (fun ls hl => ?_)
                                refine lv_goto (tgt := 313) hx hb dX3_merge_336 (by decide) ?_
                                have E : mdcG i_5 (k3 + 1) j Q3 = mdcG i_5 k3 (j + 1) S_26 := by rw [mdcG, eS_26]
                                rw [E]
                                exact ih3 (j + 1) S_26 H locs hW hS (by omega) ls (lv_sub hl [1, 2, 3, 0] rfl)
                          have E5 : mm3 q9.1 rc i_5 a_10 b_13 = S_25 := by rw [← hm9.1]; subst_vars; rfl
                          rw [if_neg (fun z => absurd ((nI_le0 (by omega)).mp c_233) (by omega)), E5]
                          exact LD 48 0 S_25 H locs hW hS (by omega) ls (lv_sub hl [1, 2, 5, 0] rfl)
                        · refine lv_aload_n hx hb dX3_merge_236 rfl (lv_at hl 0 rfl) ?_
                          refine va_get (D := gD G) (ci := 3) (v := .ref (gA G 16)) (C := RX3) (T := TX3) (N := 22) hx hb hts inX3 hown hK.1 hW 0 mw_0 rfl 18 (by decide) (hts (.fieldLink RX3 64 "MarkedTreesModel" "listed" "[I") (by decide +kernel)) (fun _ h9 => h9) rfl dX3_merge_237 ?_
                          refine lv_iload_n hx hb dX3_merge_240 rfl (lv_at hl 1 rfl) ?_
                          refine nv_iald hx hb hK.1 hW 16 0 mw_16 rfl (i := i_5) (by omega) (by decide) dX3_merge_241 ?_
                          refine lv_rwi hm9.2.1 ?_
                          refine lv_ineg hx hb dX3_merge_242 ?_
                          exact W.iret (v := -(nI q9.2)) hx hb hr (fun t9 ht9 _ => ⟨⟨_, S_20, rfl, ⟨fun _ => by rw [if_pos (Nat.pos_of_ne_zero (fun z => c_233 ((nI_le0 (by omega)).mpr z)))], by rw [if_pos (Nat.pos_of_ne_zero (fun z => c_233 ((nI_le0 (by omega)).mpr z)))]; exact hm9.1⟩, (show mW G S_20 t9.heap by rw [ht9]; exact hW)⟩, hS.F ht9⟩) hS.2.2 dX3_merge_243
                      · exact absurd c_124 (by omega)
                    | succ k ih =>
                      intro n Q H locs hW hS h1 h2 ls hl
                      refine lv_iload hx hb dX3_merge_120 (lv_at hl 5 rfl) ?_
                      refine lv_bipush (v := nI 16) hx hb dX3_merge_122 (by decide) ?_
                      refine nv_icmp_ge (tgt := 222) hx hb (by omega) (by omega) dX3_merge_124 (by decide) (fun c_124 => ?_) (fun c_124 => ?_)
                      · exact absurd c_124 (by omega)
                      · refine lv_aload_n hx hb dX3_merge_127 rfl (lv_at hl 0 rfl) ?_
                        refine va_get (D := gD G) (ci := 3) (v := .ref (gA G 19)) (C := RX3) (T := TX3) (N := 22) hx hb hts inX3 hown hK.1 hW 0 mw_0 rfl 21 (by decide) (hts (.fieldLink RX3 73 "MarkedTreesModel" "open" "[I") (by decide +kernel)) (fun _ h9 => h9) rfl dX3_merge_128 ?_
                        refine lv_iload hx hb dX3_merge_131 (lv_at hl 5 rfl) ?_
                        refine lv_iconst (v := nI 0) hx hb dX3_merge_133 (by decide) ?_
                        refine nv_iast hx hb hK.1 hW (wl_D hK.2.1) hS 19 0 mw_19 rfl (i := n) (by omega) (by decide) dX3_merge_134 (fun H locs hW hS => ?_)
                        have hW : mW G (s1 Q 19 n (nI 0)) H := mp_19 hW
                        obtain ⟨S_27, eS_27⟩ : ∃ z, z = s1 Q 19 n (nI 0) := ⟨_, rfl⟩
                        rw [← eS_27] at hW
                        refine lv_aload_n hx hb dX3_merge_135 rfl (lv_at hl 0 rfl) ?_
                        refine lv_bipush (v := nI 42) hx hb dX3_merge_136 (by decide) ?_
                        refine lv_iload hx hb dX3_merge_138 (lv_at hl 5 rfl) ?_
                        refine pv_i (va_runV (As := [.int (nI 42), .int (nI n)]) (rest := []) ⟨hx, hb, hml, hown, hts⟩ (k_X3_isAlive l G S_27 (t := 42) (by omega) (nI n)) (cwV 2 hts gX3_merge_X3_isAlive rfl rfl rfl (by decide +kernel) ⟨Nat.le_of_ble_eq_true rfl, Nat.le_of_ble_eq_true rfl⟩) ⟨mP_blind, m_recv hW hK, mP_at hW hK hS⟩ rfl rfl hl.1 rfl (lv_room (Nat.le_of_ble_eq_true rfl)) dX3_merge_140 ⟨Nat.le_of_ble_eq_true rfl, Nat.le_of_ble_eq_true rfl⟩) (fun r_28 hr_28 => ?_)
                        rw [mAl_nI S_27 42 (by omega)] at hr_28
                        subst hr_28
                        refine bv_if_eq (b := ti (S_27.1 4 42) n) (tgt := 216) hx hb dX3_merge_143 (by decide) (fun c_143 => ?_) (fun c_143 => ?_)
                        · refine lv_iinc (v := nI (n + 1)) (lv' := [(5, .int (nI (n + 1))), (0, .ref (gA G 0)), (1, .int (nI i_5)), (2, .int (nI a_10)), (3, .int (nI b_13)), (4, .int (nI rc))]) hx hb dX3_merge_216 hl (k := 5) rfl (nI_add n 1) (by decide) rfl (fun ls hl => ?_)
                          refine lv_goto (tgt := 120) hx hb dX3_merge_219 (by decide) ?_
                          have E : mmN i_5 a_10 b_13 rc (k + 1) n Q = mmN i_5 a_10 b_13 rc k (n + 1) S_27 := by rw [mmN, mmI0, ← eS_27, if_neg (ne_true_of_eq_false c_143)]
                          rw [E]
                          exact ih (n + 1) S_27 H locs hW hS (by omega) (by omega) ls (lv_sub hl [1, 2, 3, 4, 5, 0] rfl)
                        · refine lv_aload_n hx hb dX3_merge_146 rfl (lv_at hl 0 rfl) ?_
                          refine lv_iload_n hx hb dX3_merge_147 rfl (lv_at hl 2 rfl) ?_
                          refine lv_iload hx hb dX3_merge_148 (lv_at hl 5 rfl) ?_
                          refine pv_i (va_runV (As := [.int (nI a_10), .int (nI n)]) (rest := []) ⟨hx, hb, hml, hown, hts⟩ (k_X3_isAlive l G S_27 (t := a_10) (by omega) (nI n)) (cwV 2 hts gX3_merge_X3_isAlive rfl rfl rfl (by decide +kernel) ⟨Nat.le_of_ble_eq_true rfl, Nat.le_of_ble_eq_true rfl⟩) ⟨mP_blind, m_recv hW hK, mP_at hW hK hS⟩ rfl rfl hl.1 rfl (lv_room (Nat.le_of_ble_eq_true rfl)) dX3_merge_150 ⟨Nat.le_of_ble_eq_true rfl, Nat.le_of_ble_eq_true rfl⟩) (fun r_29 hr_29 => ?_)
                          rw [mAl_nI S_27 a_10 (by omega)] at hr_29
                          subst hr_29
                          refine lv_istore (lv' := [(6, .int (bI (ti (S_27.1 4 a_10) n))), (0, .ref (gA G 0)), (1, .int (nI i_5)), (2, .int (nI a_10)), (3, .int (nI b_13)), (4, .int (nI rc)), (5, .int (nI n))]) hx hb dX3_merge_153 hl (by decide) rfl (fun ls hl => ?_)
                          refine lv_aload_n hx hb dX3_merge_155 rfl (lv_at hl 1 rfl) ?_
                          refine lv_iload hx hb dX3_merge_156 (lv_at hl 0 rfl) ?_
                          refine bv_if_eq (b := ti (S_27.1 4 a_10) n) (tgt := 165) hx hb dX3_merge_158 (by decide) (fun c_158 => ?_) (fun c_158 => ?_)
                          · refine lv_iload_n hx hb dX3_merge_165 rfl (lv_at hl 4 rfl) ?_
                            refine lv_bipush (v := nI 42) hx hb dX3_merge_166 (by decide) ?_
                            refine lv_iload hx hb dX3_merge_168 (lv_at hl 6 rfl) ?_
                            refine ev_v (va_runV (As := [.int (nI b_13), .int (nI 42), .int (nI n)]) (rest := []) ⟨hx, hb, hml, hown, hts⟩ (k_X3_copyNode l G S_27 H.size (f := b_13) (t := 42) (n := n) (by omega) (by omega) (by omega)) (cwV 3 hts gX3_merge_X3_copyNode rfl rfl rfl (by decide +kernel) ⟨Nat.le_of_ble_eq_true rfl, Nat.le_of_ble_eq_true rfl⟩) ⟨mQ_blind, m_recv hW hK, mQ_at hW hK hS⟩ rfl rfl hl.1 rfl (lv_room (Nat.le_of_ble_eq_true rfl)) dX3_merge_170 ⟨Nat.le_of_ble_eq_true rfl, Nat.le_of_ble_eq_true rfl⟩) hS (fun S_30 t9 H locs ht9 hS_30 hW hS => ?_)
                            have hW : mW G S_30 H := ht9 ▸ hW
                            refine lv_iconst (v := nI 0) hx hb dX3_merge_173 (by decide) ?_
                            refine lv_istore (lv' := [(7, .int (nI 0)), (6, .int (bI (ti (S_27.1 4 a_10) n))), (0, .ref (gA G 0)), (1, .int (nI i_5)), (2, .int (nI a_10)), (3, .int (nI b_13)), (4, .int (nI rc)), (5, .int (nI n))]) hx hb dX3_merge_174 hl (by decide) rfl (fun ls hl => ?_)
                            refine lv_iload hx hb dX3_merge_176 (lv_at hl 0 rfl) ?_
                            refine lv_iconst (v := nI 3) hx hb dX3_merge_178 (by decide) ?_
                            refine nv_icmp_ge (tgt := 216) hx hb (by omega) (by omega) dX3_merge_179 (by decide) (fun c_179 => ?_) (fun c_179 => ?_)
                            · exact absurd c_179 (by decide)
                            · refine lv_iload hx hb dX3_merge_182 (lv_at hl 1 rfl) ?_
                              refine bv_if_eq (b := ti (S_27.1 4 a_10) n) (tgt := 216) hx hb dX3_merge_184 (by decide) (fun c_184 => ?_) (fun c_184 => ?_)
                              · refine lv_iinc (v := nI (n + 1)) (lv' := [(5, .int (nI (n + 1))), (7, .int (nI 0)), (6, .int (bI (ti (S_27.1 4 a_10) n))), (0, .ref (gA G 0)), (1, .int (nI i_5)), (2, .int (nI a_10)), (3, .int (nI b_13)), (4, .int (nI rc))]) hx hb dX3_merge_216 hl (k := 7) rfl (nI_add n 1) (by decide) rfl (fun ls hl => ?_)
                                refine lv_goto (tgt := 120) hx hb dX3_merge_219 (by decide) ?_
                                have E : mmN i_5 a_10 b_13 rc (k + 1) n Q = mmN i_5 a_10 b_13 rc k (n + 1) S_30 := by rw [mmN, mmI0, ← eS_27, if_pos c_143, mmI1, if_neg (ne_true_of_eq_false c_158), ← hS_30]
                                rw [E]
                                exact ih (n + 1) S_30 H locs hW hS (by omega) (by omega) ls (lv_sub hl [3, 4, 5, 6, 7, 0] rfl)
                              · exact absurd (c_158.symm.trans c_184) (by decide)
                          · refine lv_iload_n hx hb dX3_merge_161 rfl (lv_at hl 3 rfl) ?_
                            refine lv_goto (tgt := 166) hx hb dX3_merge_162 (by decide) ?_
                            refine lv_bipush (v := nI 42) hx hb dX3_merge_166 (by decide) ?_
                            refine lv_iload hx hb dX3_merge_168 (lv_at hl 6 rfl) ?_
                            refine ev_v (va_runV (As := [.int (nI a_10), .int (nI 42), .int (nI n)]) (rest := []) ⟨hx, hb, hml, hown, hts⟩ (k_X3_copyNode l G S_27 H.size (f := a_10) (t := 42) (n := n) (by omega) (by omega) (by omega)) (cwV 3 hts gX3_merge_X3_copyNode rfl rfl rfl (by decide +kernel) ⟨Nat.le_of_ble_eq_true rfl, Nat.le_of_ble_eq_true rfl⟩) ⟨mQ_blind, m_recv hW hK, mQ_at hW hK hS⟩ rfl rfl hl.1 rfl (lv_room (Nat.le_of_ble_eq_true rfl)) dX3_merge_170 ⟨Nat.le_of_ble_eq_true rfl, Nat.le_of_ble_eq_true rfl⟩) hS (fun S_31 t9 H locs ht9 hS_31 hW hS => ?_)
                            have hW : mW G S_31 H := ht9 ▸ hW
                            refine lv_iconst (v := nI 0) hx hb dX3_merge_173 (by decide) ?_
                            refine lv_istore (lv' := [(7, .int (nI 0)), (6, .int (bI (ti (S_27.1 4 a_10) n))), (0, .ref (gA G 0)), (1, .int (nI i_5)), (2, .int (nI a_10)), (3, .int (nI b_13)), (4, .int (nI rc)), (5, .int (nI n))]) hx hb dX3_merge_174 hl (by decide) rfl (fun ls hl => ?_)
                            cases hth : ti (S_31.1 4 b_13) n with
                            | false =>
                              refine lv_iload hx hb dX3_merge_176 (lv_at hl 0 rfl) ?_
                              refine lv_iconst (v := nI 3) hx hb dX3_merge_178 (by decide) ?_
                              refine nv_icmp_ge (tgt := 216) hx hb (by omega) (by omega) dX3_merge_179 (by decide) (fun c_179 => ?_) (fun c_179 => ?_)
                              · exact absurd c_179 (by decide)
                              · refine lv_iload hx hb dX3_merge_182 (lv_at hl 1 rfl) ?_
                                refine bv_if_eq (b := ti (S_27.1 4 a_10) n) (tgt := 216) hx hb dX3_merge_184 (by decide) (fun c_184 => ?_) (fun c_184 => ?_)
                                · exact absurd (c_158.symm.trans c_184) (by decide)
                                · refine lv_aload_n hx hb dX3_merge_187 rfl (lv_at hl 2 rfl) ?_
                                  refine lv_iload_n hx hb dX3_merge_188 rfl (lv_at hl 5 rfl) ?_
                                  refine lv_iload hx hb dX3_merge_189 (lv_at hl 7 rfl) ?_
                                  refine pv_i (va_runV (As := [.int (nI b_13), .int (nI n)]) (rest := []) ⟨hx, hb, hml, hown, hts⟩ (k_X3_isAlive l G S_31 (t := b_13) (by omega) (nI n)) (cwV 2 hts gX3_merge_X3_isAlive rfl rfl rfl (by decide +kernel) ⟨Nat.le_of_ble_eq_true rfl, Nat.le_of_ble_eq_true rfl⟩) ⟨mP_blind, m_recv hW hK, mP_at hW hK hS⟩ rfl rfl hl.1 rfl (lv_room (Nat.le_of_ble_eq_true rfl)) dX3_merge_191 ⟨Nat.le_of_ble_eq_true rfl, Nat.le_of_ble_eq_true rfl⟩) (fun r_32 hr_32 => ?_)
                                  rw [mAl_nI S_31 b_13 (by omega)] at hr_32
                                  subst hr_32
                                  refine bv_if_eq (b := ti (S_31.1 4 b_13) n) (tgt := 216) hx hb dX3_merge_194 (by decide) (fun c_194 => ?_) (fun c_194 => ?_)
                                  · refine lv_iinc (v := nI (n + 1)) (lv' := [(5, .int (nI (n + 1))), (7, .int (nI 0)), (6, .int (bI (ti (S_27.1 4 a_10) n))), (0, .ref (gA G 0)), (1, .int (nI i_5)), (2, .int (nI a_10)), (3, .int (nI b_13)), (4, .int (nI rc))]) hx hb dX3_merge_216 hl (k := 7) rfl (nI_add n 1) (by decide) rfl (fun ls hl => ?_)
                                    refine lv_goto (tgt := 120) hx hb dX3_merge_219 (by decide) ?_
                                    have E : mmN i_5 a_10 b_13 rc (k + 1) n Q = mmN i_5 a_10 b_13 rc k (n + 1) S_31 := by rw [mmN, mmI0, ← eS_27, if_pos c_143, mmI1, if_pos c_158, ← hS_31, if_neg (ne_true_of_eq_false hth)]
                                    rw [E]
                                    exact ih (n + 1) S_31 H locs hW hS (by omega) (by omega) ls (lv_sub hl [3, 4, 5, 6, 7, 0] rfl)
                                  · exact absurd (hth.symm.trans c_194) (by decide)
                            | true =>
                              have LQ : ∀ (k2 : Nat) (w : Nat) (Q2 : SS) (H : Heap) (locs : List Loc), (mW G Q2 H) → (va_S (gF G s.heap.size) s.heap H locs) → (ti (Q2.1 4 b_13) n = true) → (w + k2 = 3) → ∀ (ls : Array Slot), lv_has ls 8 [(0, .ref (gA G 0)), (1, .int (nI i_5)), (2, .int (nI a_10)), (3, .int (nI b_13)), (4, .int (nI rc)), (5, .int (nI n)), (6, .int (bI (ti (S_27.1 4 a_10) n))), (7, .int (nI w))] → W p l e (headSpec wsX3_merge ({ frames := 4, cells := 0, slots := 0, locals := 91 } : Room)).room s m ([.ref (gA G 0), .int (nI i_5), .int (nI a_10), .int (nI b_13)] : List Value).toArray below meth c H locs 0 0 (MQ below (va_Qi (fun r S' => ((mcMerge (mT S) rc (nI i_5) (nI a_10) (nI b_13)) = 0 → r = (if 0 < (mlcG i_5 15 1 (s1 (mmN i_5 a_10 b_13 rc k (n + 1) (mmW i_5 a_10 b_13 n rc k2 w Q2)) 16 i_5 (nI 0), 0)).2 then ((-nI (mlcG i_5 15 1 (s1 (mmN i_5 a_10 b_13 rc k (n + 1) (mmW i_5 a_10 b_13 n rc k2 w Q2)) 16 i_5 (nI 0), 0)).2 : Int32), (mlcG i_5 15 1 (s1 (mmN i_5 a_10 b_13 rc k (n + 1) (mmW i_5 a_10 b_13 n rc k2 w Q2)) 16 i_5 (nI 0), 0)).1) else (nI rc, mdcG i_5 48 0 (mm3 (mlcG i_5 15 1 (s1 (mmN i_5 a_10 b_13 rc k (n + 1) (mmW i_5 a_10 b_13 n rc k2 w Q2)) 16 i_5 (nI 0), 0)).1 rc i_5 a_10 b_13))).1) ∧ S' = (if 0 < (mlcG i_5 15 1 (s1 (mmN i_5 a_10 b_13 rc k (n + 1) (mmW i_5 a_10 b_13 n rc k2 w Q2)) 16 i_5 (nI 0), 0)).2 then ((-nI (mlcG i_5 15 1 (s1 (mmN i_5 a_10 b_13 rc k (n + 1) (mmW i_5 a_10 b_13 n rc k2 w Q2)) 16 i_5 (nI 0), 0)).2 : Int32), (mlcG i_5 15 1 (s1 (mmN i_5 a_10 b_13 rc k (n + 1) (mmW i_5 a_10 b_13 n rc k2 w Q2)) 16 i_5 (nI 0), 0)).1) else (nI rc, mdcG i_5 48 0 (mm3 (mlcG i_5 15 1 (s1 (mmN i_5 a_10 b_13 rc k (n + 1) (mmW i_5 a_10 b_13 n rc k2 w Q2)) 16 i_5 (nI 0), 0)).1 rc i_5 a_10 b_13))).2) (mB G) (gF G s.heap.size)) ([.ref (gA G 0), .int (nI i_5), .int (nI a_10), .int (nI b_13)] : List Value).toArray s 0 0 (gF G s.heap.size)) (F0 m 176 ls []) := by
                                intro k2
                                induction k2 with
                                | zero =>
                                  intro w Q2 H locs hW hS hth2 h3 ls hl
                                  refine lv_iload hx hb dX3_merge_176 (lv_at hl 7 rfl) ?_
                                  refine lv_iconst (v := nI 3) hx hb dX3_merge_178 (by decide) ?_
                                  refine nv_icmp_ge (tgt := 216) hx hb (by omega) (by omega) dX3_merge_179 (by decide) (fun c_179 => ?_) (fun c_179 => ?_)
                                  · refine lv_iinc (v := nI (n + 1)) (lv' := [(5, .int (nI (n + 1))), (0, .ref (gA G 0)), (1, .int (nI i_5)), (2, .int (nI a_10)), (3, .int (nI b_13)), (4, .int (nI rc)), (6, .int (bI (ti (S_27.1 4 a_10) n))), (7, .int (nI w))]) hx hb dX3_merge_216 hl (k := 5) rfl (nI_add n 1) (by decide) rfl (fun ls hl => ?_)
                                    refine lv_goto (tgt := 120) hx hb dX3_merge_219 (by decide) ?_
                                    exact ih (n + 1) Q2 H locs hW hS (by omega) (by omega) ls (lv_sub hl [1, 2, 3, 4, 5, 0] rfl)
                                  · exact absurd c_179 (by omega)
                                | succ k2 ih2 =>
                                  intro w Q2 H locs hW hS hth2 h3 ls hl
                                  refine lv_iload hx hb dX3_merge_176 (lv_at hl 7 rfl) ?_
                                  refine lv_iconst (v := nI 3) hx hb dX3_merge_178 (by decide) ?_
                                  refine nv_icmp_ge (tgt := 216) hx hb (by omega) (by omega) dX3_merge_179 (by decide) (fun c_179 => ?_) (fun c_179 => ?_)
                                  · exact absurd c_179 (by omega)
                                  · refine lv_iload hx hb dX3_merge_182 (lv_at hl 6 rfl) ?_
                                    refine bv_if_eq (b := ti (S_27.1 4 a_10) n) (tgt := 216) hx hb dX3_merge_184 (by decide) (fun c_184 => ?_) (fun c_184 => ?_)
                                    · exact absurd (c_158.symm.trans c_184) (by decide)
                                    · refine lv_aload_n hx hb dX3_merge_187 rfl (lv_at hl 0 rfl) ?_
                                      refine lv_iload_n hx hb dX3_merge_188 rfl (lv_at hl 3 rfl) ?_
                                      refine lv_iload hx hb dX3_merge_189 (lv_at hl 5 rfl) ?_
                                      refine pv_i (va_runV (As := [.int (nI b_13), .int (nI n)]) (rest := []) ⟨hx, hb, hml, hown, hts⟩ (k_X3_isAlive l G Q2 (t := b_13) (by omega) (nI n)) (cwV 2 hts gX3_merge_X3_isAlive rfl rfl rfl (by decide +kernel) ⟨Nat.le_of_ble_eq_true rfl, Nat.le_of_ble_eq_true rfl⟩) ⟨mP_blind, m_recv hW hK, mP_at hW hK hS⟩ rfl rfl hl.1 rfl (lv_room (Nat.le_of_ble_eq_true rfl)) dX3_merge_191 ⟨Nat.le_of_ble_eq_true rfl, Nat.le_of_ble_eq_true rfl⟩) (fun r_33 hr_33 => ?_)
                                      rw [mAl_nI Q2 b_13 (by omega)] at hr_33
                                      subst hr_33
                                      refine bv_if_eq (b := ti (Q2.1 4 b_13) n) (tgt := 216) hx hb dX3_merge_194 (by decide) (fun c_194 => ?_) (fun c_194 => ?_)
                                      · exact absurd (hth2.symm.trans c_194) (by decide)
                                      · refine lv_aload_n hx hb dX3_merge_197 rfl (lv_at hl 0 rfl) ?_
                                        refine lv_iload_n hx hb dX3_merge_198 rfl (lv_at hl 1 rfl) ?_
                                        refine lv_iload_n hx hb dX3_merge_199 rfl (lv_at hl 2 rfl) ?_
                                        refine lv_iload_n hx hb dX3_merge_200 rfl (lv_at hl 3 rfl) ?_
                                        refine lv_iload hx hb dX3_merge_201 (lv_at hl 5 rfl) ?_
                                        refine lv_iload hx hb dX3_merge_203 (lv_at hl 7 rfl) ?_
                                        refine lv_iload hx hb dX3_merge_205 (lv_at hl 4 rfl) ?_
                                        refine ev_v (va_runV (As := [.int (nI i_5), .int (nI a_10), .int (nI b_13), .int (nI n), .int (nI w), .int (nI rc)]) (rest := []) ⟨hx, hb, hml, hown, hts⟩ (k_X3_mergeScalar l G Q2 H.size (i := i_5) (by omega) (a := a_10) (b := b_13) (n := n) (k := w) (by omega) (by omega) (by omega) (by omega) (r0 := rc) (by omega)) (cwV 6 hts gX3_merge_X3_mergeScalar rfl rfl rfl (by decide +kernel) ⟨Nat.le_of_ble_eq_true rfl, Nat.le_of_ble_eq_true rfl⟩) ⟨mQ_blind, m_recv hW hK, mQ_at hW hK hS⟩ rfl rfl hl.1 rfl (lv_room (Nat.le_of_ble_eq_true rfl)) dX3_merge_207 ⟨Nat.le_of_ble_eq_true rfl, Nat.le_of_ble_eq_true rfl⟩) hS (fun S_34 t9 H locs ht9 hS_34 hW hS => ?_)
                                        have hW : mW G S_34 H := ht9 ▸ hW
                                        refine lv_iinc (v := nI (w + 1)) (lv' := [(7, .int (nI (w + 1))), (0, .ref (gA G 0)), (1, .int (nI i_5)), (2, .int (nI a_10)), (3, .int (nI b_13)), (4, .int (nI rc)), (5, .int (nI n)), (6, .int (bI (ti (S_27.1 4 a_10) n)))]) hx hb dX3_merge_210 hl (k := 7) rfl (nI_add w 1) (by decide) rfl (fun ls hl => ?_)
                                        refine lv_goto (tgt := 176) hx hb dX3_merge_213 (by decide) ?_
                                        have E : mmW i_5 a_10 b_13 n rc (k2 + 1) w Q2 = mmW i_5 a_10 b_13 n rc k2 (w + 1) S_34 := by rw [mmW, hS_34]
                                        rw [E]
                                        exact ih2 (w + 1) S_34 H locs hW hS (by rw [hS_34, msS_4]; exact hth2) (by omega) ls (lv_sub hl [1, 2, 3, 4, 5, 6, 7, 0] rfl)
                              have E : mmN i_5 a_10 b_13 rc (k + 1) n Q = mmN i_5 a_10 b_13 rc k (n + 1) (mmW i_5 a_10 b_13 n rc 3 0 S_31) := by rw [mmN, mmI0, ← eS_27, if_pos c_143, mmI1, if_pos c_158, ← hS_31, if_pos hth]
                              rw [E]
                              exact LQ 3 0 S_31 H locs hW hS hth (by omega) ls (lv_sub hl [2, 3, 4, 5, 6, 7, 1, 0] rfl)
                  have Em : mdMerge (mT S) bi rc (cn (nI i_5)) (cn (nI a_10)) (cn (nI b_13)) = (if 0 < (mlcG i_5 15 1 (s1 (mmN i_5 a_10 b_13 rc 15 1 S_19) 16 i_5 (nI 0), 0)).2 then ((-nI (mlcG i_5 15 1 (s1 (mmN i_5 a_10 b_13 rc 15 1 S_19) 16 i_5 (nI 0), 0)).2 : Int32), (mlcG i_5 15 1 (s1 (mmN i_5 a_10 b_13 rc 15 1 S_19) 16 i_5 (nI 0), 0)).1) else (nI rc, mdcG i_5 48 0 (mm3 (mlcG i_5 15 1 (s1 (mmN i_5 a_10 b_13 rc 15 1 S_19) 16 i_5 (nI 0), 0)).1 rc i_5 a_10 b_13))) := by simp only [cn_i_5, cn_a_10, cn_b_13]; unfold mdMerge mmQ; rw [← eS_19]
                  have E : mF (mT S) (mcMerge (mT S) rc (nI i_5) (nI a_10) (nI b_13)) (mdMerge (mT S) bi rc (cn (nI i_5)) (cn (nI a_10)) (cn (nI b_13))).2 = (mdMerge (mT S) bi rc (cn (nI i_5)) (cn (nI a_10)) (cn (nI b_13))).2 := mF_ok (by unfold mcMerge; (try simp only [cn_i_5, cn_a_10, cn_b_13]); rw [if_pos (isP_nI hi_5), if_pos c_29, if_pos c_49, if_neg (ne_true_of_eq_false c_64), if_neg (ne_true_of_eq_false c_73), if_neg c_88])
                  rw [E, Em]
                  exact LP 15 1 S_19 H locs hW hS (by omega) (by omega) ls (lv_sub hl [2, 3, 4, 5, 1, 0] rfl)
                · refine lv_aload_n hx hb dX3_merge_91 rfl (lv_at hl 0 rfl) ?_
                  refine lv_iconst (v := nI 3) hx hb dX3_merge_92 (by decide) ?_
                  refine ev_i (va_runV (As := [.int (nI 3)]) (rest := []) ⟨hx, hb, hml, hown, hts⟩ (k_X3_fail l G (mT S) H.size (nI 3)) (cwV 1 hts gX3_merge_X3_fail rfl rfl rfl (by decide +kernel) ⟨Nat.le_of_ble_eq_true rfl, Nat.le_of_ble_eq_true rfl⟩) ⟨mQ_blind, m_recv hW hK, mQ_at hW hK hS⟩ rfl rfl hl.1 rfl (lv_room (Nat.le_of_ble_eq_true rfl)) dX3_merge_93 ⟨Nat.le_of_ble_eq_true rfl, Nat.le_of_ble_eq_true rfl⟩) hS (fun r_36 S_35 t9 H locs ht9 hS_35 hW hS => ?_)
                  have hW : mW G S_35 H := ht9 ▸ hW
                  obtain ⟨rfl, eS_35⟩ := hS_35
                  exact W.iret (v := nI 0) hx hb hr (fun t9 ht9 _ => ⟨⟨_, S_35, rfl, ⟨no0 (k := 3) (by unfold mcMerge; (try simp only [cn_i_5, cn_a_10, cn_b_13]); rw [if_pos (isP_nI hi_5), if_pos c_29, if_pos c_49, if_neg (ne_true_of_eq_false c_64), if_neg (ne_true_of_eq_false c_73), if_pos c_88]) (by decide), (by rw [mF_no (by unfold mcMerge; (try simp only [cn_i_5, cn_a_10, cn_b_13]); rw [if_pos (isP_nI hi_5), if_pos c_29, if_pos c_49, if_neg (ne_true_of_eq_false c_64), if_neg (ne_true_of_eq_false c_73), if_pos c_88]) (by decide)]; exact eS_35)⟩, (show mW G S_35 t9.heap by rw [ht9]; exact hW)⟩, hS.F ht9⟩) hS.2.2 dX3_merge_96
              · refine lv_aload_n hx hb dX3_merge_76 rfl (lv_at hl 0 rfl) ?_
                refine lv_iconst (v := nI 2) hx hb dX3_merge_77 (by decide) ?_
                refine ev_i (va_runV (As := [.int (nI 2)]) (rest := []) ⟨hx, hb, hml, hown, hts⟩ (k_X3_fail l G (mT S) H.size (nI 2)) (cwV 1 hts gX3_merge_X3_fail rfl rfl rfl (by decide +kernel) ⟨Nat.le_of_ble_eq_true rfl, Nat.le_of_ble_eq_true rfl⟩) ⟨mQ_blind, m_recv hW hK, mQ_at hW hK hS⟩ rfl rfl hl.1 rfl (lv_room (Nat.le_of_ble_eq_true rfl)) dX3_merge_78 ⟨Nat.le_of_ble_eq_true rfl, Nat.le_of_ble_eq_true rfl⟩) hS (fun r_38 S_37 t9 H locs ht9 hS_37 hW hS => ?_)
                have hW : mW G S_37 H := ht9 ▸ hW
                obtain ⟨rfl, eS_37⟩ := hS_37
                exact W.iret (v := nI 0) hx hb hr (fun t9 ht9 _ => ⟨⟨_, S_37, rfl, ⟨no0 (k := 2) (by unfold mcMerge; (try simp only [cn_i_5, cn_a_10, cn_b_13]); rw [if_pos (isP_nI hi_5), if_pos c_29, if_pos c_49, if_neg (ne_true_of_eq_false c_64), if_pos c_73]) (by decide), (by rw [mF_no (by unfold mcMerge; (try simp only [cn_i_5, cn_a_10, cn_b_13]); rw [if_pos (isP_nI hi_5), if_pos c_29, if_pos c_49, if_neg (ne_true_of_eq_false c_64), if_pos c_73]) (by decide)]; exact eS_37)⟩, (show mW G S_37 t9.heap by rw [ht9]; exact hW)⟩, hS.F ht9⟩) hS.2.2 dX3_merge_81
          · refine lv_aload_n hx hb dX3_merge_52 rfl (lv_at hl 0 rfl) ?_
            refine lv_iconst (v := nI 1) hx hb dX3_merge_53 (by decide) ?_
            refine ev_i (va_runV (As := [.int (nI 1)]) (rest := []) ⟨hx, hb, hml, hown, hts⟩ (k_X3_fail l G (mT S) H.size (nI 1)) (cwV 1 hts gX3_merge_X3_fail rfl rfl rfl (by decide +kernel) ⟨Nat.le_of_ble_eq_true rfl, Nat.le_of_ble_eq_true rfl⟩) ⟨mQ_blind, m_recv hW hK, mQ_at hW hK hS⟩ rfl rfl hl.1 rfl (lv_room (Nat.le_of_ble_eq_true rfl)) dX3_merge_54 ⟨Nat.le_of_ble_eq_true rfl, Nat.le_of_ble_eq_true rfl⟩) hS (fun r_40 S_39 t9 H locs ht9 hS_39 hW hS => ?_)
            have hW : mW G S_39 H := ht9 ▸ hW
            obtain ⟨rfl, eS_39⟩ := hS_39
            exact W.iret (v := nI 0) hx hb hr (fun t9 ht9 _ => ⟨⟨_, S_39, rfl, ⟨no0 (k := 1) (by unfold mcMerge; (try simp only [cn_i_5, cn_a_10]); rw [if_pos (isP_nI hi_5), if_pos c_29, if_neg (ne_true_of_eq_false c_49)]) (by decide), (by rw [mF_no (by unfold mcMerge; (try simp only [cn_i_5, cn_a_10]); rw [if_pos (isP_nI hi_5), if_pos c_29, if_neg (ne_true_of_eq_false c_49)]) (by decide)]; exact eS_39)⟩, (show mW G S_39 t9.heap by rw [ht9]; exact hW)⟩, hS.F ht9⟩) hS.2.2 dX3_merge_57
