set_option maxHeartbeats 4000000 in
set_option maxRecDepth 100000 in
theorem k_X3_conflict (l : Launch) (G : GT) (S : SS) (sz : Nat) {lc : Nat → Nat} (hls : ∀ i, i < 2 → lc i ≤ 64 ∧ S.1 16 i = nI (lc i)) (x y z : Int32) : Met l yX3_conflict wsX3_conflict ({ frames := 1, cells := 0, slots := 0, locals := 22 } : Room) (va_Pc [.ref (gA G 0), .int x, .int y, .int z] (fun U => U.heap.size = sz ∧ mP G S U)) (va_Qi (fun r S' => ((mcConflict (lc (cn x)) x y z) = 0 → r = (if z = 0 then (mT S).1 17 (64 * cn x + cn y) else (mT S).1 18 (64 * cn x + cn y))) ∧ S' = mF (mT S) (mcConflict (lc (cn x)) x y z) (mT S)) (mB G) (gF G sz)) 0 0 (gF G sz) := by
  refine Met.ofW (cc := cX3_conflict) (maxL := 4) (ret := (some .int)) (by decide) rfl ?_
  intro p e s m args below meth c s₁ B hml hv
  obtain ⟨rfl, hsz, hW, hK⟩ := hv
  subst hsz
  have hx := B.exec
  have hb := B.bytes
  have hr := B.returns
  have hts := atoms_spec (ws := wsX3_conflict) B.pre
  have hown : s.vm.findClass RX3 = some m.cls := findClass_of_methodNamed B.named
  have hlocks := B.notSynchronized
  have hS : va_S (gF G s.heap.size) s.heap s.heap [] := va_S.rf
  have inX3 : ∀ w ∈ u_ws RX3 TX3 22, w ∈ wsX3_conflict := by decide +kernel
  have hl := lv_entry ([.ref (gA G 0), .int x, .int y, .int z]) (n := 4) (Nat.le_of_ble_eq_true rfl)
  rw [lg_entry_eq]
  generalize (lg_sl ([.ref (gA G 0), .int x, .int y, .int z]) ++ List.replicate (4 - (lg_sl ([.ref (gA G 0), .int x, .int y, .int z])).length) Slot.unset).toArray = ls at hl ⊢
  have hl : lv_has ls 4 [(0, .ref (gA G 0)), (1, .int x), (2, .int y), (3, .int z)] := hl
  refine lv_aload_n hx hb dX3_conflict_0 rfl (lv_at hl 0 rfl) ?_
  refine lv_iconst (v := nI 0) hx hb dX3_conflict_1 (by decide) ?_
  refine va_put (D := gD G) (ci := 3) (v := .int (nI 0)) (ty := .int) (C := RX3) (T := TX3) (N := 22) hx hb hts inX3 tyX3 tyX3_ok nmX3 hown hK.1 hW (wl_D hK.2.1) hS 0 mw_0 rfl 0 (by decide) (hts (.fieldLink RX3 76 "MarkedTreesModel" "thrown" "I") (by decide +kernel)) (fun _ h9 => h9) rfl (by decide +kernel) rfl rfl (Nat.le_of_ble_eq_true rfl) dX3_conflict_2 (fun H locs hW _ hS => ?_)
  have hW : mW G (s1 S 0 0 (nI 0)) H := mp_0_0 hW
  obtain ⟨S_1, eS_1⟩ : ∃ z, z = s1 S 0 0 (nI 0) := ⟨_, rfl⟩
  rw [← eS_1] at hW
  have hT : S_1 = mT S := eS_1
  subst hT
  refine lv_iload_n hx hb dX3_conflict_5 rfl (lv_at hl 1 rfl) ?_
  refine pv_i (va_runS (As := [.int x]) (rest := []) ⟨hx, hb, hml, hown, hts⟩ (k_X3_isPeer l x) (va_cwS 1 hts gX3_conflict_X3_isPeer rfl rfl rfl (by decide +kernel) ⟨Nat.le_of_ble_eq_true rfl, Nat.le_of_ble_eq_true rfl⟩) ⟨(fun _ _ _ _ h => h), fun U _ _ => ⟨rfl, trivial⟩⟩ rfl rfl hl.1 rfl (lv_room (Nat.le_of_ble_eq_true rfl)) dX3_conflict_6 ⟨Nat.le_of_ble_eq_true rfl, Nat.le_of_ble_eq_true rfl⟩) (fun r_2 hr_2 => ?_)
  have hr_2 : r_2 = bI (isP x) := hr_2
  subst hr_2
  refine bv_if_ne (b := isP x) (tgt := 18) hx hb dX3_conflict_9 (by decide) (fun c_9 => ?_) (fun c_9 => ?_)
  · obtain ⟨i_3, hi_3, rfl⟩ := isP_iff.mp c_9
    have cn_i_3 : cn (nI i_3) = i_3 := cn_nI (by omega)
    obtain ⟨hl64, hlc⟩ := hls i_3 hi_3
    have hlcT : (mT S).1 16 i_3 = nI (lc i_3) := by rw [mT_1 _ (by omega)]; exact hlc
    refine lv_iload_n hx hb dX3_conflict_18 rfl (lv_at hl 2 rfl) ?_
    refine lv_iconst (v := nI 0) hx hb dX3_conflict_19 (by decide) ?_
    refine lv_aload_n hx hb dX3_conflict_20 rfl (lv_at hl 0 rfl) ?_
    refine va_get (D := gD G) (ci := 3) (v := .ref (gA G 16)) (C := RX3) (T := TX3) (N := 22) hx hb hts inX3 hown hK.1 hW 0 mw_0 rfl 18 (by decide) (hts (.fieldLink RX3 64 "MarkedTreesModel" "listed" "[I") (by decide +kernel)) (fun _ h9 => h9) rfl dX3_conflict_21 ?_
    refine lv_iload_n hx hb dX3_conflict_24 rfl (lv_at hl 1 rfl) ?_
    refine nv_iald hx hb hK.1 hW 16 0 mw_16 rfl (i := i_3) (by omega) (by decide) dX3_conflict_25 ?_
    refine lv_rwi hlcT ?_
    refine lv_iconst (v := nI 1) hx hb dX3_conflict_26 (by decide) ?_
    refine lv_isub hx hb dX3_conflict_27 ?_
    refine pv_i (va_runS (As := [.int y, .int (nI 0), .int ((nI (lc i_3)) - (nI 1))]) (rest := []) ⟨hx, hb, hml, hown, hts⟩ (k_X3_in l y (nI 0) ((nI (lc i_3)) - (nI 1))) (va_cwS 3 hts gX3_conflict_X3_in rfl rfl rfl (by decide +kernel) ⟨Nat.le_of_ble_eq_true rfl, Nat.le_of_ble_eq_true rfl⟩) ⟨(fun _ _ _ _ h => h), fun U _ _ => ⟨rfl, trivial⟩⟩ rfl rfl hl.1 rfl (lv_room (Nat.le_of_ble_eq_true rfl)) dX3_conflict_28 ⟨Nat.le_of_ble_eq_true rfl, Nat.le_of_ble_eq_true rfl⟩) (fun r_4 hr_4 => ?_)
    have hr_4 : r_4 = bI (inM y (nI 0) ((nI (lc i_3)) - (nI 1))) := hr_4
    subst hr_4
    refine bv_if_eq (b := inM y (nI 0) ((nI (lc i_3)) - (nI 1))) (tgt := 43) hx hb dX3_conflict_31 (by decide) (fun c_31 => ?_) (fun c_31 => ?_)
    · have d_31 : inB y (lc i_3) = false := (inM_sub (by omega)).symm.trans c_31
      refine lv_aload_n hx hb dX3_conflict_43 rfl (lv_at hl 0 rfl) ?_
      refine lv_iconst (v := nI 2) hx hb dX3_conflict_44 (by decide) ?_
      refine ev_i (va_runV (As := [.int (nI 2)]) (rest := []) ⟨hx, hb, hml, hown, hts⟩ (k_X3_fail l G (mT S) H.size (nI 2)) (cwV 1 hts gX3_conflict_X3_fail rfl rfl rfl (by decide +kernel) ⟨Nat.le_of_ble_eq_true rfl, Nat.le_of_ble_eq_true rfl⟩) ⟨mQ_blind, m_recv hW hK, mQ_at hW hK hS⟩ rfl rfl hl.1 rfl (lv_room (Nat.le_of_ble_eq_true rfl)) dX3_conflict_45 ⟨Nat.le_of_ble_eq_true rfl, Nat.le_of_ble_eq_true rfl⟩) hS (fun r_6 S_5 t9 H locs ht9 hS_5 hW hS => ?_)
      have hW : mW G S_5 H := ht9 ▸ hW
      obtain ⟨rfl, eS_5⟩ := hS_5
      exact W.iret (v := nI 0) hx hb hr (fun t9 ht9 _ => ⟨⟨_, S_5, rfl, ⟨no0 (k := 2) (by unfold mcConflict; (try simp only [cn_i_3]); rw [if_pos (isP_nI hi_3), if_neg (ne_true_of_eq_false d_31)]) (by decide), (by rw [mF_no (by unfold mcConflict; (try simp only [cn_i_3]); rw [if_pos (isP_nI hi_3), if_neg (ne_true_of_eq_false d_31)]) (by decide)]; exact eS_5)⟩, (show mW G S_5 t9.heap by rw [ht9]; exact hW)⟩, hS.F ht9⟩) hS.2.2 dX3_conflict_48
    · have d_31 : inB y (lc i_3) = true := (inM_sub (by omega)).symm.trans c_31
      obtain ⟨n_7, hn_7, rfl⟩ := (inB_iff (by omega)).mp d_31
      have cn_n_7 : cn (nI n_7) = n_7 := cn_nI (by omega)
      refine lv_iload_n hx hb dX3_conflict_34 rfl (lv_at hl 3 rfl) ?_
      refine lv_iconst (v := nI 0) hx hb dX3_conflict_35 (by decide) ?_
      refine lv_iconst (v := nI 1) hx hb dX3_conflict_36 (by decide) ?_
      refine pv_i (va_runS (As := [.int z, .int (nI 0), .int (nI 1)]) (rest := []) ⟨hx, hb, hml, hown, hts⟩ (k_X3_in l z (nI 0) (nI 1)) (va_cwS 3 hts gX3_conflict_X3_in rfl rfl rfl (by decide +kernel) ⟨Nat.le_of_ble_eq_true rfl, Nat.le_of_ble_eq_true rfl⟩) ⟨(fun _ _ _ _ h => h), fun U _ _ => ⟨rfl, trivial⟩⟩ rfl rfl hl.1 rfl (lv_room (Nat.le_of_ble_eq_true rfl)) dX3_conflict_37 ⟨Nat.le_of_ble_eq_true rfl, Nat.le_of_ble_eq_true rfl⟩) (fun r_8 hr_8 => ?_)
      have hr_8 : r_8 = bI (inM z (nI 0) (nI 1)) := hr_8
      subst hr_8
      refine bv_if_ne (b := inM z (nI 0) (nI 1)) (tgt := 49) hx hb dX3_conflict_40 (by decide) (fun c_40 => ?_) (fun c_40 => ?_)
      · have d_40 : inB z 2 = true := (inM_B z (n := 1) (by decide)).symm.trans c_40
        refine lv_iload_n hx hb dX3_conflict_49 rfl (lv_at hl 3 rfl) ?_
        refine lv_if_ne (tgt := 67) hx hb dX3_conflict_50 (by decide) (fun c_50 => ?_) (fun c_50 => ?_)
        · refine lv_aload_n hx hb dX3_conflict_67 rfl (lv_at hl 0 rfl) ?_
          refine va_get (D := gD G) (ci := 3) (v := .ref (gA G 18)) (C := RX3) (T := TX3) (N := 22) hx hb hts inX3 hown hK.1 hW 0 mw_0 rfl 20 (by decide) (hts (.fieldLink RX3 70 "MarkedTreesModel" "listedKind" "[I") (by decide +kernel)) (fun _ h9 => h9) rfl dX3_conflict_68 ?_
          refine lv_bipush (v := nI 64) hx hb dX3_conflict_71 (by decide) ?_
          refine lv_iload_n hx hb dX3_conflict_73 rfl (lv_at hl 1 rfl) ?_
          refine nv_imul hx hb dX3_conflict_74 ?_
          refine lv_iload_n hx hb dX3_conflict_75 rfl (lv_at hl 2 rfl) ?_
          refine nv_iadd hx hb dX3_conflict_76 ?_
          refine nv_iald hx hb hK.1 hW 18 0 mw_18 rfl (i := (64 * i_3) + n_7) (by omega) (by decide) dX3_conflict_77 ?_
          exact W.iret (v := (mT S).1 18 ((64 * i_3) + n_7)) hx hb hr (fun t9 ht9 _ => ⟨⟨_, (mT S), rfl, ⟨fun _ => (by first | (simp only [cn_i_3, cn_n_7]; done) | (simp only [cn_i_3, cn_n_7]; rw [if_neg c_50]) | (rw [if_neg c_50])), (by rw [mF_ok (by unfold mcConflict; (try simp only [cn_i_3, cn_n_7]); rw [if_pos (isP_nI hi_3), if_pos d_31, if_pos d_40])])⟩, (show mW G (mT S) t9.heap by rw [ht9]; exact hW)⟩, hS.F ht9⟩) hS.2.2 dX3_conflict_78
        · refine lv_aload_n hx hb dX3_conflict_53 rfl (lv_at hl 0 rfl) ?_
          refine va_get (D := gD G) (ci := 3) (v := .ref (gA G 17)) (C := RX3) (T := TX3) (N := 22) hx hb hts inX3 hown hK.1 hW 0 mw_0 rfl 19 (by decide) (hts (.fieldLink RX3 67 "MarkedTreesModel" "listedNode" "[I") (by decide +kernel)) (fun _ h9 => h9) rfl dX3_conflict_54 ?_
          refine lv_bipush (v := nI 64) hx hb dX3_conflict_57 (by decide) ?_
          refine lv_iload_n hx hb dX3_conflict_59 rfl (lv_at hl 1 rfl) ?_
          refine nv_imul hx hb dX3_conflict_60 ?_
          refine lv_iload_n hx hb dX3_conflict_61 rfl (lv_at hl 2 rfl) ?_
          refine nv_iadd hx hb dX3_conflict_62 ?_
          refine nv_iald hx hb hK.1 hW 17 0 mw_17 rfl (i := (64 * i_3) + n_7) (by omega) (by decide) dX3_conflict_63 ?_
          refine lv_goto (tgt := 78) hx hb dX3_conflict_64 (by decide) ?_
          exact W.iret (v := (mT S).1 17 ((64 * i_3) + n_7)) hx hb hr (fun t9 ht9 _ => ⟨⟨_, (mT S), rfl, ⟨fun _ => (by first | (simp only [cn_i_3, cn_n_7]; done) | (simp only [cn_i_3, cn_n_7]; rw [if_pos c_50]) | (rw [if_pos c_50])), (by rw [mF_ok (by unfold mcConflict; (try simp only [cn_i_3, cn_n_7]); rw [if_pos (isP_nI hi_3), if_pos d_31, if_pos d_40])])⟩, (show mW G (mT S) t9.heap by rw [ht9]; exact hW)⟩, hS.F ht9⟩) hS.2.2 dX3_conflict_78
      · have d_40 : inB z 2 = false := (inM_B z (n := 1) (by decide)).symm.trans c_40
        refine lv_aload_n hx hb dX3_conflict_43 rfl (lv_at hl 0 rfl) ?_
        refine lv_iconst (v := nI 2) hx hb dX3_conflict_44 (by decide) ?_
        refine ev_i (va_runV (As := [.int (nI 2)]) (rest := []) ⟨hx, hb, hml, hown, hts⟩ (k_X3_fail l G (mT S) H.size (nI 2)) (cwV 1 hts gX3_conflict_X3_fail rfl rfl rfl (by decide +kernel) ⟨Nat.le_of_ble_eq_true rfl, Nat.le_of_ble_eq_true rfl⟩) ⟨mQ_blind, m_recv hW hK, mQ_at hW hK hS⟩ rfl rfl hl.1 rfl (lv_room (Nat.le_of_ble_eq_true rfl)) dX3_conflict_45 ⟨Nat.le_of_ble_eq_true rfl, Nat.le_of_ble_eq_true rfl⟩) hS (fun r_10 S_9 t9 H locs ht9 hS_9 hW hS => ?_)
        have hW : mW G S_9 H := ht9 ▸ hW
        obtain ⟨rfl, eS_9⟩ := hS_9
        exact W.iret (v := nI 0) hx hb hr (fun t9 ht9 _ => ⟨⟨_, S_9, rfl, ⟨no0 (k := 2) (by unfold mcConflict; (try simp only [cn_i_3, cn_n_7]); rw [if_pos (isP_nI hi_3), if_pos d_31, if_neg (ne_true_of_eq_false d_40)]) (by decide), (by rw [mF_no (by unfold mcConflict; (try simp only [cn_i_3, cn_n_7]); rw [if_pos (isP_nI hi_3), if_pos d_31, if_neg (ne_true_of_eq_false d_40)]) (by decide)]; exact eS_9)⟩, (show mW G S_9 t9.heap by rw [ht9]; exact hW)⟩, hS.F ht9⟩) hS.2.2 dX3_conflict_48
  · refine lv_aload_n hx hb dX3_conflict_12 rfl (lv_at hl 0 rfl) ?_
    refine lv_iconst (v := nI 1) hx hb dX3_conflict_13 (by decide) ?_
    refine ev_i (va_runV (As := [.int (nI 1)]) (rest := []) ⟨hx, hb, hml, hown, hts⟩ (k_X3_fail l G (mT S) H.size (nI 1)) (cwV 1 hts gX3_conflict_X3_fail rfl rfl rfl (by decide +kernel) ⟨Nat.le_of_ble_eq_true rfl, Nat.le_of_ble_eq_true rfl⟩) ⟨mQ_blind, m_recv hW hK, mQ_at hW hK hS⟩ rfl rfl hl.1 rfl (lv_room (Nat.le_of_ble_eq_true rfl)) dX3_conflict_14 ⟨Nat.le_of_ble_eq_true rfl, Nat.le_of_ble_eq_true rfl⟩) hS (fun r_12 S_11 t9 H locs ht9 hS_11 hW hS => ?_)
    have hW : mW G S_11 H := ht9 ▸ hW
    obtain ⟨rfl, eS_11⟩ := hS_11
    exact W.iret (v := nI 0) hx hb hr (fun t9 ht9 _ => ⟨⟨_, S_11, rfl, ⟨no0 (k := 1) (by unfold mcConflict; rw [if_neg (ne_true_of_eq_false c_9)]) (by decide), (by rw [mF_no (by unfold mcConflict; rw [if_neg (ne_true_of_eq_false c_9)]) (by decide)]; exact eS_11)⟩, (show mW G S_11 t9.heap by rw [ht9]; exact hW)⟩, hS.F ht9⟩) hS.2.2 dX3_conflict_17

set_option maxHeartbeats 4000000 in
set_option maxRecDepth 100000 in
theorem k_X3_about (l : Launch) (G : GT) (S : SS) (sz : Nat) {rc : Nat} (hrc : S.1 0 1 = nI rc) (h1r : 1 ≤ rc) (h40 : rc ≤ 40) (x y z : Int32) : Met l yX3_about wsX3_about ({ frames := 2, cells := 0, slots := 0, locals := 44 } : Room) (va_Pc [.ref (gA G 0), .int x, .int y, .int z] (fun U => U.heap.size = sz ∧ mP G S U)) (va_Qi (fun r S' => ((mcAbout (mT S) rc x y z) = 0 → r = maAbout (mT S) (cn x) (cn y) (cn z)) ∧ S' = mF (mT S) (mcAbout (mT S) rc x y z) (mT S)) (mB G) (gF G sz)) 0 0 (gF G sz) := by
  refine Met.ofW (cc := cX3_about) (maxL := 5) (ret := (some .int)) (by decide) rfl ?_
  intro p e s m args below meth c s₁ B hml hv
  obtain ⟨rfl, hsz, hW, hK⟩ := hv
  subst hsz
  have hx := B.exec
  have hb := B.bytes
  have hr := B.returns
  have hts := atoms_spec (ws := wsX3_about) B.pre
  have hown : s.vm.findClass RX3 = some m.cls := findClass_of_methodNamed B.named
  have hlocks := B.notSynchronized
  have hS : va_S (gF G s.heap.size) s.heap s.heap [] := va_S.rf
  have inX3 : ∀ w ∈ u_ws RX3 TX3 22, w ∈ wsX3_about := by decide +kernel
  have hl := lv_entry ([.ref (gA G 0), .int x, .int y, .int z]) (n := 5) (Nat.le_of_ble_eq_true rfl)
  rw [lg_entry_eq]
  generalize (lg_sl ([.ref (gA G 0), .int x, .int y, .int z]) ++ List.replicate (5 - (lg_sl ([.ref (gA G 0), .int x, .int y, .int z])).length) Slot.unset).toArray = ls at hl ⊢
  have hl : lv_has ls 5 [(0, .ref (gA G 0)), (1, .int x), (2, .int y), (3, .int z)] := hl
  refine lv_aload_n hx hb dX3_about_0 rfl (lv_at hl 0 rfl) ?_
  refine lv_iconst (v := nI 0) hx hb dX3_about_1 (by decide) ?_
  refine va_put (D := gD G) (ci := 3) (v := .int (nI 0)) (ty := .int) (C := RX3) (T := TX3) (N := 22) hx hb hts inX3 tyX3 tyX3_ok nmX3 hown hK.1 hW (wl_D hK.2.1) hS 0 mw_0 rfl 0 (by decide) (hts (.fieldLink RX3 76 "MarkedTreesModel" "thrown" "I") (by decide +kernel)) (fun _ h9 => h9) rfl (by decide +kernel) rfl rfl (Nat.le_of_ble_eq_true rfl) dX3_about_2 (fun H locs hW _ hS => ?_)
  have hW : mW G (s1 S 0 0 (nI 0)) H := mp_0_0 hW
  obtain ⟨S_1, eS_1⟩ : ∃ z, z = s1 S 0 0 (nI 0) := ⟨_, rfl⟩
  rw [← eS_1] at hW
  have hT : S_1 = mT S := eS_1
  subst hT
  have hrcT : (mT S).1 0 1 = nI rc := (mT_0 _ (by omega)).trans hrc
  refine lv_iload_n hx hb dX3_about_5 rfl (lv_at hl 1 rfl) ?_
  refine lv_iconst (v := nI 0) hx hb dX3_about_6 (by decide) ?_
  refine lv_aload_n hx hb dX3_about_7 rfl (lv_at hl 0 rfl) ?_
  refine va_get (D := gD G) (ci := 3) (v := .int (nI rc)) (C := RX3) (T := TX3) (N := 22) hx hb hts inX3 hown hK.1 hW 0 mw_0 rfl 1 (by decide) (hts (.fieldLink RX3 7 "MarkedTreesModel" "revisions" "I") (by decide +kernel)) (fun _ h9 => h9) (by rw [← hrcT]; rfl) dX3_about_8 ?_
  refine lv_iconst (v := nI 1) hx hb dX3_about_11 (by decide) ?_
  refine nv_isub hx hb (by omega) dX3_about_12 ?_
  refine pv_i (va_runS (As := [.int x, .int (nI 0), .int (nI (rc - 1))]) (rest := []) ⟨hx, hb, hml, hown, hts⟩ (k_X3_in l x (nI 0) (nI (rc - 1))) (va_cwS 3 hts gX3_about_X3_in rfl rfl rfl (by decide +kernel) ⟨Nat.le_of_ble_eq_true rfl, Nat.le_of_ble_eq_true rfl⟩) ⟨(fun _ _ _ _ h => h), fun U _ _ => ⟨rfl, trivial⟩⟩ rfl rfl hl.1 rfl (lv_room (Nat.le_of_ble_eq_true rfl)) dX3_about_13 ⟨Nat.le_of_ble_eq_true rfl, Nat.le_of_ble_eq_true rfl⟩) (fun r_2 hr_2 => ?_)
  have hr_2 : r_2 = bI (inM x (nI 0) (nI (rc - 1))) := hr_2
  subst hr_2
  refine bv_if_eq (b := inM x (nI 0) (nI (rc - 1))) (tgt := 46) hx hb dX3_about_16 (by decide) (fun c_16 => ?_) (fun c_16 => ?_)
  · have d_16 : inB x rc = false := by have h9 := (inM_B x (n := rc - 1) (by omega)).symm.trans c_16; rwa [Nat.sub_add_cancel (by omega)] at h9
    refine lv_aload_n hx hb dX3_about_46 rfl (lv_at hl 0 rfl) ?_
    refine lv_iconst (v := nI 1) hx hb dX3_about_47 (by decide) ?_
    refine ev_i (va_runV (As := [.int (nI 1)]) (rest := []) ⟨hx, hb, hml, hown, hts⟩ (k_X3_fail l G (mT S) H.size (nI 1)) (cwV 1 hts gX3_about_X3_fail rfl rfl rfl (by decide +kernel) ⟨Nat.le_of_ble_eq_true rfl, Nat.le_of_ble_eq_true rfl⟩) ⟨mQ_blind, m_recv hW hK, mQ_at hW hK hS⟩ rfl rfl hl.1 rfl (lv_room (Nat.le_of_ble_eq_true rfl)) dX3_about_48 ⟨Nat.le_of_ble_eq_true rfl, Nat.le_of_ble_eq_true rfl⟩) hS (fun r_4 S_3 t9 H locs ht9 hS_3 hW hS => ?_)
    have hW : mW G S_3 H := ht9 ▸ hW
    obtain ⟨rfl, eS_3⟩ := hS_3
    exact W.iret (v := nI 0) hx hb hr (fun t9 ht9 _ => ⟨⟨_, S_3, rfl, ⟨no0 (k := 1) (by unfold mcAbout; rw [if_neg (ne_true_of_eq_false d_16)]) (by decide), (by rw [mF_no (by unfold mcAbout; rw [if_neg (ne_true_of_eq_false d_16)]) (by decide)]; exact eS_3)⟩, (show mW G S_3 t9.heap by rw [ht9]; exact hW)⟩, hS.F ht9⟩) hS.2.2 dX3_about_51
  · have d_16 : inB x rc = true := by have h9 := (inM_B x (n := rc - 1) (by omega)).symm.trans c_16; rwa [Nat.sub_add_cancel (by omega)] at h9
    obtain ⟨n_5, hn_5, rfl⟩ := (inB_iff (by omega)).mp d_16
    have cn_n_5 : cn (nI n_5) = n_5 := cn_nI (by omega)
    refine lv_aload_n hx hb dX3_about_19 rfl (lv_at hl 0 rfl) ?_
    refine lv_iload_n hx hb dX3_about_20 rfl (lv_at hl 1 rfl) ?_
    refine lv_iconst (v := nI 0) hx hb dX3_about_21 (by decide) ?_
    refine lv_aload_n hx hb dX3_about_22 rfl (lv_at hl 0 rfl) ?_
    refine va_get (D := gD G) (ci := 3) (v := .int (nI rc)) (C := RX3) (T := TX3) (N := 22) hx hb hts inX3 hown hK.1 hW 0 mw_0 rfl 1 (by decide) (hts (.fieldLink RX3 7 "MarkedTreesModel" "revisions" "I") (by decide +kernel)) (fun _ h9 => h9) (by rw [← hrcT]; rfl) dX3_about_23 ?_
    refine lv_iconst (v := nI 1) hx hb dX3_about_26 (by decide) ?_
    refine nv_isub hx hb (by omega) dX3_about_27 ?_
    refine pv_i (va_runS (As := [.int (nI n_5), .int (nI 0), .int (nI (rc - 1))]) (rest := [.ref (gA G 0)]) ⟨hx, hb, hml, hown, hts⟩ (k_X3_in l (nI n_5) (nI 0) (nI (rc - 1))) (va_cwS 3 hts gX3_about_X3_in rfl rfl rfl (by decide +kernel) ⟨Nat.le_of_ble_eq_true rfl, Nat.le_of_ble_eq_true rfl⟩) ⟨(fun _ _ _ _ h => h), fun U _ _ => ⟨rfl, trivial⟩⟩ rfl rfl hl.1 rfl (lv_room (Nat.le_of_ble_eq_true rfl)) dX3_about_28 ⟨Nat.le_of_ble_eq_true rfl, Nat.le_of_ble_eq_true rfl⟩) (fun r_6 hr_6 => ?_)
    have hr_6 : r_6 = bI (inM (nI n_5) (nI 0) (nI (rc - 1))) := hr_6
    subst hr_6
    refine bv_if_eq (b := inM (nI n_5) (nI 0) (nI (rc - 1))) (tgt := 38) hx hb dX3_about_31 (by decide) (fun c_31 => ?_) (fun c_31 => ?_)
    · exact absurd (inM_nI (j := n_5) (n := rc - 1) (by omega) (by omega)) (ne_true_of_eq_false c_31)
    · refine lv_iload_n hx hb dX3_about_34 rfl (lv_at hl 1 rfl) ?_
      refine lv_goto (tgt := 39) hx hb dX3_about_35 (by decide) ?_
      refine lv_iload_n hx hb dX3_about_39 rfl (lv_at hl 2 rfl) ?_
      refine pv_i (va_runV (As := [.int (nI n_5), .int y]) (rest := []) ⟨hx, hb, hml, hown, hts⟩ (k_X3_isAlive l G (mT S) (t := n_5) (by omega) y) (cwV 2 hts gX3_about_X3_isAlive rfl rfl rfl (by decide +kernel) ⟨Nat.le_of_ble_eq_true rfl, Nat.le_of_ble_eq_true rfl⟩) ⟨mP_blind, m_recv hW hK, mP_at hW hK hS⟩ rfl rfl hl.1 rfl (lv_room (Nat.le_of_ble_eq_true rfl)) dX3_about_40 ⟨Nat.le_of_ble_eq_true rfl, Nat.le_of_ble_eq_true rfl⟩) (fun r_7 hr_7 => ?_)
      subst hr_7
      refine bv_if_ne (b := mAl (mT S) n_5 y) (tgt := 52) hx hb dX3_about_43 (by decide) (fun c_43 => ?_) (fun c_43 => ?_)
      · obtain ⟨n_8, hn_8, rfl⟩ := mAl_of c_43
        have cn_n_8 : cn (nI n_8) = n_8 := cn_nI (by omega)
        have ca_n_8 := c_43
        rw [mAl_nI _ _ hn_8] at ca_n_8
        refine lv_bipush (v := nI 16) hx hb dX3_about_52 (by decide) ?_
        refine lv_iload_n hx hb dX3_about_54 rfl (lv_at hl 1 rfl) ?_
        refine nv_imul hx hb dX3_about_55 ?_
        refine lv_iload_n hx hb dX3_about_56 rfl (lv_at hl 2 rfl) ?_
        refine nv_iadd hx hb dX3_about_57 ?_
        refine lv_istore (lv' := [(4, .int (nI ((16 * n_5) + n_8))), (0, .ref (gA G 0)), (1, .int (nI n_5)), (2, .int (nI n_8)), (3, .int z)]) hx hb dX3_about_58 hl (by decide) rfl (fun ls hl => ?_)
        refine lv_iload_n hx hb dX3_about_60 rfl (lv_at hl 4 rfl) ?_
        rcases swt z (n := 6) (by decide) with ⟨j9, hj9, e9⟩ | ho9
        · obtain rfl | rfl | rfl | rfl | rfl | rfl : j9 = 0 ∨ j9 = 1 ∨ j9 = 2 ∨ j9 = 3 ∨ j9 = 4 ∨ j9 = 5 := by omega
          · subst e9
            refine lv_tableIn (tgt := 100) (off := 39) hx hb dX3_about_61 (by decide +kernel) (by decide +kernel) (by decide +kernel) (by decide) ?_
            refine lv_aload_n hx hb dX3_about_100 rfl (lv_at hl 1 rfl) ?_
            refine va_get (D := gD G) (ci := 3) (v := .ref (gA G 5)) (C := RX3) (T := TX3) (N := 22) hx hb hts inX3 hown hK.1 hW 0 mw_0 rfl 7 (by decide) (hts (.fieldLink RX3 31 "MarkedTreesModel" "parent" "[I") (by decide +kernel)) (fun _ h9 => h9) rfl dX3_about_101 ?_
            refine lv_iload hx hb dX3_about_104 (lv_at hl 0 rfl) ?_
            refine nv_iald hx hb hK.1 hW 5 0 mw_5 rfl (i := (16 * n_5) + n_8) (by omega) (by decide) dX3_about_106 ?_
            exact W.iret (v := (mT S).1 5 ((16 * n_5) + n_8)) hx hb hr (fun t9 ht9 _ => ⟨⟨_, (mT S), rfl, ⟨fun _ => (by first | (simp only [cn_n_5, cn_n_8, cn_nI (show 0 < 2 ^ 31 by decide)]; done) | (simp only [cn_n_5, cn_n_8, cn_nI (show 0 < 2 ^ 31 by decide)]; rfl) | (rfl)), (by rw [mF_ok (by unfold mcAbout; (try simp only [cn_n_5, cn_n_8, cn_nI (show 0 < 2 ^ 31 by decide)]); rw [if_pos d_16, if_pos c_43, if_pos (inB_nI (by decide) (by decide))])])⟩, (show mW G (mT S) t9.heap by rw [ht9]; exact hW)⟩, hS.F ht9⟩) hS.2.2 dX3_about_107
          · subst e9
            refine lv_tableIn (tgt := 108) (off := 47) hx hb dX3_about_61 (by decide +kernel) (by decide +kernel) (by decide +kernel) (by decide) ?_
            refine lv_aload_n hx hb dX3_about_108 rfl (lv_at hl 1 rfl) ?_
            refine va_get (D := gD G) (ci := 3) (v := .ref (gA G 6)) (C := RX3) (T := TX3) (N := 22) hx hb hts inX3 hown hK.1 hW 0 mw_0 rfl 8 (by decide) (hts (.fieldLink RX3 34 "MarkedTreesModel" "name" "[I") (by decide +kernel)) (fun _ h9 => h9) rfl dX3_about_109 ?_
            refine lv_iload hx hb dX3_about_112 (lv_at hl 0 rfl) ?_
            refine nv_iald hx hb hK.1 hW 6 0 mw_6 rfl (i := (16 * n_5) + n_8) (by omega) (by decide) dX3_about_114 ?_
            exact W.iret (v := (mT S).1 6 ((16 * n_5) + n_8)) hx hb hr (fun t9 ht9 _ => ⟨⟨_, (mT S), rfl, ⟨fun _ => (by first | (simp only [cn_n_5, cn_n_8, cn_nI (show 1 < 2 ^ 31 by decide)]; done) | (simp only [cn_n_5, cn_n_8, cn_nI (show 1 < 2 ^ 31 by decide)]; rfl) | (rfl)), (by rw [mF_ok (by unfold mcAbout; (try simp only [cn_n_5, cn_n_8, cn_nI (show 1 < 2 ^ 31 by decide)]); rw [if_pos d_16, if_pos c_43, if_pos (inB_nI (by decide) (by decide))])])⟩, (show mW G (mT S) t9.heap by rw [ht9]; exact hW)⟩, hS.F ht9⟩) hS.2.2 dX3_about_115
          · subst e9
            refine lv_tableIn (tgt := 116) (off := 55) hx hb dX3_about_61 (by decide +kernel) (by decide +kernel) (by decide +kernel) (by decide) ?_
            refine lv_aload_n hx hb dX3_about_116 rfl (lv_at hl 1 rfl) ?_
            refine va_get (D := gD G) (ci := 3) (v := .ref (gA G 7)) (C := RX3) (T := TX3) (N := 22) hx hb hts inX3 hown hK.1 hW 0 mw_0 rfl 9 (by decide) (hts (.fieldLink RX3 37 "MarkedTreesModel" "content" "[I") (by decide +kernel)) (fun _ h9 => h9) rfl dX3_about_117 ?_
            refine lv_iload hx hb dX3_about_120 (lv_at hl 0 rfl) ?_
            refine nv_iald hx hb hK.1 hW 7 0 mw_7 rfl (i := (16 * n_5) + n_8) (by omega) (by decide) dX3_about_122 ?_
            exact W.iret (v := (mT S).1 7 ((16 * n_5) + n_8)) hx hb hr (fun t9 ht9 _ => ⟨⟨_, (mT S), rfl, ⟨fun _ => (by first | (simp only [cn_n_5, cn_n_8, cn_nI (show 2 < 2 ^ 31 by decide)]; done) | (simp only [cn_n_5, cn_n_8, cn_nI (show 2 < 2 ^ 31 by decide)]; rfl) | (rfl)), (by rw [mF_ok (by unfold mcAbout; (try simp only [cn_n_5, cn_n_8, cn_nI (show 2 < 2 ^ 31 by decide)]); rw [if_pos d_16, if_pos c_43, if_pos (inB_nI (by decide) (by decide))])])⟩, (show mW G (mT S) t9.heap by rw [ht9]; exact hW)⟩, hS.F ht9⟩) hS.2.2 dX3_about_123
          · subst e9
            refine lv_tableIn (tgt := 124) (off := 63) hx hb dX3_about_61 (by decide +kernel) (by decide +kernel) (by decide +kernel) (by decide) ?_
            refine lv_aload_n hx hb dX3_about_124 rfl (lv_at hl 1 rfl) ?_
            refine va_get (D := gD G) (ci := 3) (v := .ref (gA G 8)) (C := RX3) (T := TX3) (N := 22) hx hb hts inX3 hown hK.1 hW 0 mw_0 rfl 10 (by decide) (hts (.fieldLink RX3 40 "MarkedTreesModel" "attribute" "[I") (by decide +kernel)) (fun _ h9 => h9) rfl dX3_about_125 ?_
            refine lv_iload hx hb dX3_about_128 (lv_at hl 0 rfl) ?_
            refine nv_iald hx hb hK.1 hW 8 0 mw_8 rfl (i := (16 * n_5) + n_8) (by omega) (by decide) dX3_about_130 ?_
            exact W.iret (v := (mT S).1 8 ((16 * n_5) + n_8)) hx hb hr (fun t9 ht9 _ => ⟨⟨_, (mT S), rfl, ⟨fun _ => (by first | (simp only [cn_n_5, cn_n_8, cn_nI (show 3 < 2 ^ 31 by decide)]; done) | (simp only [cn_n_5, cn_n_8, cn_nI (show 3 < 2 ^ 31 by decide)]; rfl) | (rfl)), (by rw [mF_ok (by unfold mcAbout; (try simp only [cn_n_5, cn_n_8, cn_nI (show 3 < 2 ^ 31 by decide)]); rw [if_pos d_16, if_pos c_43, if_pos (inB_nI (by decide) (by decide))])])⟩, (show mW G (mT S) t9.heap by rw [ht9]; exact hW)⟩, hS.F ht9⟩) hS.2.2 dX3_about_131
          · subst e9
            refine lv_tableIn (tgt := 132) (off := 71) hx hb dX3_about_61 (by decide +kernel) (by decide +kernel) (by decide +kernel) (by decide) ?_
            refine lv_aload_n hx hb dX3_about_132 rfl (lv_at hl 1 rfl) ?_
            refine va_get (D := gD G) (ci := 3) (v := .ref (gA G 3)) (C := RX3) (T := TX3) (N := 22) hx hb hts inX3 hown hK.1 hW 0 mw_0 rfl 5 (by decide) (hts (.fieldLink RX3 24 "MarkedTreesModel" "birth" "[I") (by decide +kernel)) (fun _ h9 => h9) rfl dX3_about_133 ?_
            refine lv_iload_n hx hb dX3_about_136 rfl (lv_at hl 3 rfl) ?_
            refine nv_iald hx hb hK.1 hW 3 0 mw_3 rfl (i := n_8) (by omega) (by decide) dX3_about_137 ?_
            exact W.iret (v := (mT S).1 3 n_8) hx hb hr (fun t9 ht9 _ => ⟨⟨_, (mT S), rfl, ⟨fun _ => (by first | (simp only [cn_n_5, cn_n_8, cn_nI (show 4 < 2 ^ 31 by decide)]; done) | (simp only [cn_n_5, cn_n_8, cn_nI (show 4 < 2 ^ 31 by decide)]; rfl) | (rfl)), (by rw [mF_ok (by unfold mcAbout; (try simp only [cn_n_5, cn_n_8, cn_nI (show 4 < 2 ^ 31 by decide)]); rw [if_pos d_16, if_pos c_43, if_pos (inB_nI (by decide) (by decide))])])⟩, (show mW G (mT S) t9.heap by rw [ht9]; exact hW)⟩, hS.F ht9⟩) hS.2.2 dX3_about_138
          · subst e9
            refine lv_tableIn (tgt := 139) (off := 78) hx hb dX3_about_61 (by decide +kernel) (by decide +kernel) (by decide +kernel) (by decide) ?_
            refine lv_aload_n hx hb dX3_about_139 rfl (lv_at hl 1 rfl) ?_
            refine va_get (D := gD G) (ci := 3) (v := .ref (gA G 2)) (C := RX3) (T := TX3) (N := 22) hx hb hts inX3 hown hK.1 hW 0 mw_0 rfl 4 (by decide) (hts (.fieldLink RX3 20 "MarkedTreesModel" "directory" "[Z") (by decide +kernel)) (fun _ h9 => h9) rfl dX3_about_140 ?_
            refine lv_iload_n hx hb dX3_about_143 rfl (lv_at hl 3 rfl) ?_
            refine nv_zald hx hb hK.1 hW 2 2 mw_2 rfl (i := n_8) (by omega) (by decide) dX3_about_144 ?_
            refine lv_if_eq (tgt := 152) hx hb dX3_about_145 (by decide) (fun c_145 => ?_) (fun c_145 => ?_)
            · refine lv_iconst (v := nI 0) hx hb dX3_about_152 (by decide) ?_
              exact W.iret (v := nI 0) hx hb hr (fun t9 ht9 _ => ⟨⟨_, (mT S), rfl, ⟨fun _ => (by first | (simp only [cn_n_5, cn_n_8, cn_nI (show 5 < 2 ^ 31 by decide)]; done) | (simp only [cn_n_5, cn_n_8, cn_nI (show 5 < 2 ^ 31 by decide)]; exact (if_pos c_145).symm) | (exact (if_pos c_145).symm)), (by rw [mF_ok (by unfold mcAbout; (try simp only [cn_n_5, cn_n_8, cn_nI (show 5 < 2 ^ 31 by decide)]); rw [if_pos d_16, if_pos c_43, if_pos (inB_nI (by decide) (by decide))])])⟩, (show mW G (mT S) t9.heap by rw [ht9]; exact hW)⟩, hS.F ht9⟩) hS.2.2 dX3_about_153
            · refine lv_iconst (v := nI 1) hx hb dX3_about_148 (by decide) ?_
              refine lv_goto (tgt := 153) hx hb dX3_about_149 (by decide) ?_
              exact W.iret (v := nI 1) hx hb hr (fun t9 ht9 _ => ⟨⟨_, (mT S), rfl, ⟨fun _ => (by first | (simp only [cn_n_5, cn_n_8, cn_nI (show 5 < 2 ^ 31 by decide)]; done) | (simp only [cn_n_5, cn_n_8, cn_nI (show 5 < 2 ^ 31 by decide)]; exact (if_neg c_145).symm) | (exact (if_neg c_145).symm)), (by rw [mF_ok (by unfold mcAbout; (try simp only [cn_n_5, cn_n_8, cn_nI (show 5 < 2 ^ 31 by decide)]); rw [if_pos d_16, if_pos c_43, if_pos (inB_nI (by decide) (by decide))])])⟩, (show mW G (mT S) t9.heap by rw [ht9]; exact hW)⟩, hS.F ht9⟩) hS.2.2 dX3_about_153
        · refine lv_tableOut (tgt := 154) hx hb dX3_about_61 (by have := ho9.2; omega) (by decide) ?_
          refine lv_aload_n hx hb dX3_about_154 rfl (lv_at hl 1 rfl) ?_
          refine lv_iconst (v := nI 2) hx hb dX3_about_155 (by decide) ?_
          refine ev_i (va_runV (As := [.int (nI 2)]) (rest := []) ⟨hx, hb, hml, hown, hts⟩ (k_X3_fail l G (mT S) H.size (nI 2)) (cwV 1 hts gX3_about_X3_fail rfl rfl rfl (by decide +kernel) ⟨Nat.le_of_ble_eq_true rfl, Nat.le_of_ble_eq_true rfl⟩) ⟨mQ_blind, m_recv hW hK, mQ_at hW hK hS⟩ rfl rfl hl.1 rfl (lv_room (Nat.le_of_ble_eq_true rfl)) dX3_about_156 ⟨Nat.le_of_ble_eq_true rfl, Nat.le_of_ble_eq_true rfl⟩) hS (fun r_10 S_9 t9 H locs ht9 hS_9 hW hS => ?_)
          have hW : mW G S_9 H := ht9 ▸ hW
          obtain ⟨rfl, eS_9⟩ := hS_9
          exact W.iret (v := nI 0) hx hb hr (fun t9 ht9 _ => ⟨⟨_, S_9, rfl, ⟨no0 (k := 2) (by unfold mcAbout; (try simp only [cn_n_5, cn_n_8]); rw [if_pos d_16, if_pos c_43, if_neg (ne_true_of_eq_false ho9.1)]) (by decide), (by rw [mF_no (by unfold mcAbout; (try simp only [cn_n_5, cn_n_8]); rw [if_pos d_16, if_pos c_43, if_neg (ne_true_of_eq_false ho9.1)]) (by decide)]; exact eS_9)⟩, (show mW G S_9 t9.heap by rw [ht9]; exact hW)⟩, hS.F ht9⟩) hS.2.2 dX3_about_159
      · refine lv_aload_n hx hb dX3_about_46 rfl (lv_at hl 0 rfl) ?_
        refine lv_iconst (v := nI 1) hx hb dX3_about_47 (by decide) ?_
        refine ev_i (va_runV (As := [.int (nI 1)]) (rest := []) ⟨hx, hb, hml, hown, hts⟩ (k_X3_fail l G (mT S) H.size (nI 1)) (cwV 1 hts gX3_about_X3_fail rfl rfl rfl (by decide +kernel) ⟨Nat.le_of_ble_eq_true rfl, Nat.le_of_ble_eq_true rfl⟩) ⟨mQ_blind, m_recv hW hK, mQ_at hW hK hS⟩ rfl rfl hl.1 rfl (lv_room (Nat.le_of_ble_eq_true rfl)) dX3_about_48 ⟨Nat.le_of_ble_eq_true rfl, Nat.le_of_ble_eq_true rfl⟩) hS (fun r_12 S_11 t9 H locs ht9 hS_11 hW hS => ?_)
        have hW : mW G S_11 H := ht9 ▸ hW
        obtain ⟨rfl, eS_11⟩ := hS_11
        exact W.iret (v := nI 0) hx hb hr (fun t9 ht9 _ => ⟨⟨_, S_11, rfl, ⟨no0 (k := 1) (by unfold mcAbout; (try simp only [cn_n_5]); rw [if_pos d_16, if_neg (ne_true_of_eq_false c_43)]) (by decide), (by rw [mF_no (by unfold mcAbout; (try simp only [cn_n_5]); rw [if_pos d_16, if_neg (ne_true_of_eq_false c_43)]) (by decide)]; exact eS_11)⟩, (show mW G S_11 t9.heap by rw [ht9]; exact hW)⟩, hS.F ht9⟩) hS.2.2 dX3_about_51

set_option maxHeartbeats 4000000 in
set_option maxRecDepth 100000 in
theorem k_X3_marks (l : Launch) (G : GT) (S : SS) (sz : Nat) {rc : Nat} (hrc : S.1 0 1 = nI rc) (h1r : 1 ≤ rc) (h40 : rc ≤ 40) (x y z : Int32) : Met l yX3_marks wsX3_marks ({ frames := 2, cells := 0, slots := 0, locals := 44 } : Room) (va_Pc [.ref (gA G 0), .int x, .int y, .int z] (fun U => U.heap.size = sz ∧ mP G S U)) (va_Ql (fun r S' => ((mcMarks (mT S) rc x y z) = 0 → r = (mT S).2 9 (48 * cn x + 3 * cn y + cn z)) ∧ S' = mF (mT S) (mcMarks (mT S) rc x y z) (mT S)) (mB G) (gF G sz)) 0 0 (gF G sz) := by
  refine Met.ofW (cc := cX3_marks) (maxL := 4) (ret := (some .long)) (by decide) rfl ?_
  intro p e s m args below meth c s₁ B hml hv
  obtain ⟨rfl, hsz, hW, hK⟩ := hv
  subst hsz
  have hx := B.exec
  have hb := B.bytes
  have hr := B.returns
  have hts := atoms_spec (ws := wsX3_marks) B.pre
  have hown : s.vm.findClass RX3 = some m.cls := findClass_of_methodNamed B.named
  have hlocks := B.notSynchronized
  have hS : va_S (gF G s.heap.size) s.heap s.heap [] := va_S.rf
  have inX3 : ∀ w ∈ u_ws RX3 TX3 22, w ∈ wsX3_marks := by decide +kernel
  have hl := lv_entry ([.ref (gA G 0), .int x, .int y, .int z]) (n := 4) (Nat.le_of_ble_eq_true rfl)
  rw [lg_entry_eq]
  generalize (lg_sl ([.ref (gA G 0), .int x, .int y, .int z]) ++ List.replicate (4 - (lg_sl ([.ref (gA G 0), .int x, .int y, .int z])).length) Slot.unset).toArray = ls at hl ⊢
  have hl : lv_has ls 4 [(0, .ref (gA G 0)), (1, .int x), (2, .int y), (3, .int z)] := hl
  refine lv_aload_n hx hb dX3_marks_0 rfl (lv_at hl 0 rfl) ?_
  refine lv_iconst (v := nI 0) hx hb dX3_marks_1 (by decide) ?_
  refine va_put (D := gD G) (ci := 3) (v := .int (nI 0)) (ty := .int) (C := RX3) (T := TX3) (N := 22) hx hb hts inX3 tyX3 tyX3_ok nmX3 hown hK.1 hW (wl_D hK.2.1) hS 0 mw_0 rfl 0 (by decide) (hts (.fieldLink RX3 76 "MarkedTreesModel" "thrown" "I") (by decide +kernel)) (fun _ h9 => h9) rfl (by decide +kernel) rfl rfl (Nat.le_of_ble_eq_true rfl) dX3_marks_2 (fun H locs hW _ hS => ?_)
  have hW : mW G (s1 S 0 0 (nI 0)) H := mp_0_0 hW
  obtain ⟨S_1, eS_1⟩ : ∃ z, z = s1 S 0 0 (nI 0) := ⟨_, rfl⟩
  rw [← eS_1] at hW
  have hT : S_1 = mT S := eS_1
  subst hT
  have hrcT : (mT S).1 0 1 = nI rc := (mT_0 _ (by omega)).trans hrc
  refine lv_iload_n hx hb dX3_marks_5 rfl (lv_at hl 1 rfl) ?_
  refine lv_iconst (v := nI 0) hx hb dX3_marks_6 (by decide) ?_
  refine lv_aload_n hx hb dX3_marks_7 rfl (lv_at hl 0 rfl) ?_
  refine va_get (D := gD G) (ci := 3) (v := .int (nI rc)) (C := RX3) (T := TX3) (N := 22) hx hb hts inX3 hown hK.1 hW 0 mw_0 rfl 1 (by decide) (hts (.fieldLink RX3 7 "MarkedTreesModel" "revisions" "I") (by decide +kernel)) (fun _ h9 => h9) (by rw [← hrcT]; rfl) dX3_marks_8 ?_
  refine lv_iconst (v := nI 1) hx hb dX3_marks_11 (by decide) ?_
  refine nv_isub hx hb (by omega) dX3_marks_12 ?_
  refine pv_i (va_runS (As := [.int x, .int (nI 0), .int (nI (rc - 1))]) (rest := []) ⟨hx, hb, hml, hown, hts⟩ (k_X3_in l x (nI 0) (nI (rc - 1))) (va_cwS 3 hts gX3_marks_X3_in rfl rfl rfl (by decide +kernel) ⟨Nat.le_of_ble_eq_true rfl, Nat.le_of_ble_eq_true rfl⟩) ⟨(fun _ _ _ _ h => h), fun U _ _ => ⟨rfl, trivial⟩⟩ rfl rfl hl.1 rfl (lv_room (Nat.le_of_ble_eq_true rfl)) dX3_marks_13 ⟨Nat.le_of_ble_eq_true rfl, Nat.le_of_ble_eq_true rfl⟩) (fun r_2 hr_2 => ?_)
  have hr_2 : r_2 = bI (inM x (nI 0) (nI (rc - 1))) := hr_2
  subst hr_2
  refine bv_if_eq (b := inM x (nI 0) (nI (rc - 1))) (tgt := 46) hx hb dX3_marks_16 (by decide) (fun c_16 => ?_) (fun c_16 => ?_)
  · have d_16 : inB x rc = false := by have h9 := (inM_B x (n := rc - 1) (by omega)).symm.trans c_16; rwa [Nat.sub_add_cancel (by omega)] at h9
    refine lv_aload_n hx hb dX3_marks_46 rfl (lv_at hl 0 rfl) ?_
    refine lv_iconst (v := nI 1) hx hb dX3_marks_47 (by decide) ?_
    refine ev_i (va_runV (As := [.int (nI 1)]) (rest := []) ⟨hx, hb, hml, hown, hts⟩ (k_X3_fail l G (mT S) H.size (nI 1)) (cwV 1 hts gX3_marks_X3_fail rfl rfl rfl (by decide +kernel) ⟨Nat.le_of_ble_eq_true rfl, Nat.le_of_ble_eq_true rfl⟩) ⟨mQ_blind, m_recv hW hK, mQ_at hW hK hS⟩ rfl rfl hl.1 rfl (lv_room (Nat.le_of_ble_eq_true rfl)) dX3_marks_48 ⟨Nat.le_of_ble_eq_true rfl, Nat.le_of_ble_eq_true rfl⟩) hS (fun r_4 S_3 t9 H locs ht9 hS_3 hW hS => ?_)
    have hW : mW G S_3 H := ht9 ▸ hW
    obtain ⟨rfl, eS_3⟩ := hS_3
    refine lv_i2l (v := (nI 0).toInt64) hx hb dX3_marks_51 rfl ?_
    exact W.lret (v := (nI 0).toInt64) hx hb hr (fun t9 ht9 _ => ⟨⟨_, S_3, rfl, ⟨no0 (k := 1) (by unfold mcMarks; rw [if_neg (ne_true_of_eq_false d_16)]) (by decide), (by rw [mF_no (by unfold mcMarks; rw [if_neg (ne_true_of_eq_false d_16)]) (by decide)]; exact eS_3)⟩, (show mW G S_3 t9.heap by rw [ht9]; exact hW)⟩, hS.F ht9⟩) hS.2.2 dX3_marks_52
  · have d_16 : inB x rc = true := by have h9 := (inM_B x (n := rc - 1) (by omega)).symm.trans c_16; rwa [Nat.sub_add_cancel (by omega)] at h9
    obtain ⟨n_5, hn_5, rfl⟩ := (inB_iff (by omega)).mp d_16
    have cn_n_5 : cn (nI n_5) = n_5 := cn_nI (by omega)
    refine lv_aload_n hx hb dX3_marks_19 rfl (lv_at hl 0 rfl) ?_
    refine lv_iload_n hx hb dX3_marks_20 rfl (lv_at hl 1 rfl) ?_
    refine lv_iconst (v := nI 0) hx hb dX3_marks_21 (by decide) ?_
    refine lv_aload_n hx hb dX3_marks_22 rfl (lv_at hl 0 rfl) ?_
    refine va_get (D := gD G) (ci := 3) (v := .int (nI rc)) (C := RX3) (T := TX3) (N := 22) hx hb hts inX3 hown hK.1 hW 0 mw_0 rfl 1 (by decide) (hts (.fieldLink RX3 7 "MarkedTreesModel" "revisions" "I") (by decide +kernel)) (fun _ h9 => h9) (by rw [← hrcT]; rfl) dX3_marks_23 ?_
    refine lv_iconst (v := nI 1) hx hb dX3_marks_26 (by decide) ?_
    refine nv_isub hx hb (by omega) dX3_marks_27 ?_
    refine pv_i (va_runS (As := [.int (nI n_5), .int (nI 0), .int (nI (rc - 1))]) (rest := [.ref (gA G 0)]) ⟨hx, hb, hml, hown, hts⟩ (k_X3_in l (nI n_5) (nI 0) (nI (rc - 1))) (va_cwS 3 hts gX3_marks_X3_in rfl rfl rfl (by decide +kernel) ⟨Nat.le_of_ble_eq_true rfl, Nat.le_of_ble_eq_true rfl⟩) ⟨(fun _ _ _ _ h => h), fun U _ _ => ⟨rfl, trivial⟩⟩ rfl rfl hl.1 rfl (lv_room (Nat.le_of_ble_eq_true rfl)) dX3_marks_28 ⟨Nat.le_of_ble_eq_true rfl, Nat.le_of_ble_eq_true rfl⟩) (fun r_6 hr_6 => ?_)
    have hr_6 : r_6 = bI (inM (nI n_5) (nI 0) (nI (rc - 1))) := hr_6
    subst hr_6
    refine bv_if_eq (b := inM (nI n_5) (nI 0) (nI (rc - 1))) (tgt := 38) hx hb dX3_marks_31 (by decide) (fun c_31 => ?_) (fun c_31 => ?_)
    · exact absurd (inM_nI (j := n_5) (n := rc - 1) (by omega) (by omega)) (ne_true_of_eq_false c_31)
    · refine lv_iload_n hx hb dX3_marks_34 rfl (lv_at hl 1 rfl) ?_
      refine lv_goto (tgt := 39) hx hb dX3_marks_35 (by decide) ?_
      refine lv_iload_n hx hb dX3_marks_39 rfl (lv_at hl 2 rfl) ?_
      refine pv_i (va_runV (As := [.int (nI n_5), .int y]) (rest := []) ⟨hx, hb, hml, hown, hts⟩ (k_X3_isAlive l G (mT S) (t := n_5) (by omega) y) (cwV 2 hts gX3_marks_X3_isAlive rfl rfl rfl (by decide +kernel) ⟨Nat.le_of_ble_eq_true rfl, Nat.le_of_ble_eq_true rfl⟩) ⟨mP_blind, m_recv hW hK, mP_at hW hK hS⟩ rfl rfl hl.1 rfl (lv_room (Nat.le_of_ble_eq_true rfl)) dX3_marks_40 ⟨Nat.le_of_ble_eq_true rfl, Nat.le_of_ble_eq_true rfl⟩) (fun r_7 hr_7 => ?_)
      subst hr_7
      refine bv_if_ne (b := mAl (mT S) n_5 y) (tgt := 53) hx hb dX3_marks_43 (by decide) (fun c_43 => ?_) (fun c_43 => ?_)
      · obtain ⟨n_8, hn_8, rfl⟩ := mAl_of c_43
        have cn_n_8 : cn (nI n_8) = n_8 := cn_nI (by omega)
        have ca_n_8 := c_43
        rw [mAl_nI _ _ hn_8] at ca_n_8
        refine lv_iload_n hx hb dX3_marks_53 rfl (lv_at hl 3 rfl) ?_
        refine lv_iconst (v := nI 0) hx hb dX3_marks_54 (by decide) ?_
        refine lv_iconst (v := nI 2) hx hb dX3_marks_55 (by decide) ?_
        refine pv_i (va_runS (As := [.int z, .int (nI 0), .int (nI 2)]) (rest := []) ⟨hx, hb, hml, hown, hts⟩ (k_X3_in l z (nI 0) (nI 2)) (va_cwS 3 hts gX3_marks_X3_in rfl rfl rfl (by decide +kernel) ⟨Nat.le_of_ble_eq_true rfl, Nat.le_of_ble_eq_true rfl⟩) ⟨(fun _ _ _ _ h => h), fun U _ _ => ⟨rfl, trivial⟩⟩ rfl rfl hl.1 rfl (lv_room (Nat.le_of_ble_eq_true rfl)) dX3_marks_56 ⟨Nat.le_of_ble_eq_true rfl, Nat.le_of_ble_eq_true rfl⟩) (fun r_9 hr_9 => ?_)
        have hr_9 : r_9 = bI (inM z (nI 0) (nI 2)) := hr_9
        subst hr_9
        refine bv_if_eq (b := inM z (nI 0) (nI 2)) (tgt := 66) hx hb dX3_marks_59 (by decide) (fun c_59 => ?_) (fun c_59 => ?_)
        · have d_59 : inB z 3 = false := (inM_B z (n := 2) (by decide)).symm.trans c_59
          refine lv_aload_n hx hb dX3_marks_66 rfl (lv_at hl 0 rfl) ?_
          refine lv_iconst (v := nI 2) hx hb dX3_marks_67 (by decide) ?_
          refine ev_i (va_runV (As := [.int (nI 2)]) (rest := []) ⟨hx, hb, hml, hown, hts⟩ (k_X3_fail l G (mT S) H.size (nI 2)) (cwV 1 hts gX3_marks_X3_fail rfl rfl rfl (by decide +kernel) ⟨Nat.le_of_ble_eq_true rfl, Nat.le_of_ble_eq_true rfl⟩) ⟨mQ_blind, m_recv hW hK, mQ_at hW hK hS⟩ rfl rfl hl.1 rfl (lv_room (Nat.le_of_ble_eq_true rfl)) dX3_marks_68 ⟨Nat.le_of_ble_eq_true rfl, Nat.le_of_ble_eq_true rfl⟩) hS (fun r_11 S_10 t9 H locs ht9 hS_10 hW hS => ?_)
          have hW : mW G S_10 H := ht9 ▸ hW
          obtain ⟨rfl, eS_10⟩ := hS_10
          refine lv_i2l (v := (nI 0).toInt64) hx hb dX3_marks_71 rfl ?_
          exact W.lret (v := (nI 0).toInt64) hx hb hr (fun t9 ht9 _ => ⟨⟨_, S_10, rfl, ⟨no0 (k := 2) (by unfold mcMarks; (try simp only [cn_n_5, cn_n_8]); rw [if_pos d_16, if_pos c_43, if_neg (ne_true_of_eq_false d_59)]) (by decide), (by rw [mF_no (by unfold mcMarks; (try simp only [cn_n_5, cn_n_8]); rw [if_pos d_16, if_pos c_43, if_neg (ne_true_of_eq_false d_59)]) (by decide)]; exact eS_10)⟩, (show mW G S_10 t9.heap by rw [ht9]; exact hW)⟩, hS.F ht9⟩) hS.2.2 dX3_marks_72
        · have d_59 : inB z 3 = true := (inM_B z (n := 2) (by decide)).symm.trans c_59
          obtain ⟨n_12, hn_12, rfl⟩ := (inB_iff (by omega)).mp d_59
          have cn_n_12 : cn (nI n_12) = n_12 := cn_nI (by omega)
          refine lv_iload_n hx hb dX3_marks_62 rfl (lv_at hl 2 rfl) ?_
          refine lv_if_ne (tgt := 73) hx hb dX3_marks_63 (by decide) (fun c_63 => ?_) (fun c_63 => ?_)
          · refine lv_aload_n hx hb dX3_marks_73 rfl (lv_at hl 0 rfl) ?_
            refine va_get (D := gD G) (ci := 3) (v := .ref (gA G 9)) (C := RX3) (T := TX3) (N := 22) hx hb hts inX3 hown hK.1 hW 0 mw_0 rfl 11 (by decide) (hts (.fieldLink RX3 43 "MarkedTreesModel" "marks" "[J") (by decide +kernel)) (fun _ h9 => h9) rfl dX3_marks_74 ?_
            refine lv_bipush (v := nI 48) hx hb dX3_marks_77 (by decide) ?_
            refine lv_iload_n hx hb dX3_marks_79 rfl (lv_at hl 1 rfl) ?_
            refine nv_imul hx hb dX3_marks_80 ?_
            refine lv_iconst (v := nI 3) hx hb dX3_marks_81 (by decide) ?_
            refine lv_iload_n hx hb dX3_marks_82 rfl (lv_at hl 2 rfl) ?_
            refine nv_imul hx hb dX3_marks_83 ?_
            refine nv_iadd hx hb dX3_marks_84 ?_
            refine lv_iload_n hx hb dX3_marks_85 rfl (lv_at hl 3 rfl) ?_
            refine nv_iadd hx hb dX3_marks_86 ?_
            refine nv_lald hx hb hK.1 hW 9 1 mw_9 rfl (i := ((48 * n_5) + (3 * n_8)) + n_12) (by omega) (by decide) dX3_marks_87 ?_
            exact W.lret (v := (mT S).2 9 (((48 * n_5) + (3 * n_8)) + n_12)) hx hb hr (fun t9 ht9 _ => ⟨⟨_, (mT S), rfl, ⟨fun _ => (by first | (simp only [cn_n_5, cn_n_8, cn_n_12]; done) | (simp only [cn_n_5, cn_n_8, cn_n_12]; rfl) | (rfl)), (by rw [mF_ok (by unfold mcMarks; (try simp only [cn_n_5, cn_n_8, cn_n_12]); rw [if_pos d_16, if_pos c_43, if_pos d_59, if_neg c_63])])⟩, (show mW G (mT S) t9.heap by rw [ht9]; exact hW)⟩, hS.F ht9⟩) hS.2.2 dX3_marks_88
          · refine lv_aload_n hx hb dX3_marks_66 rfl (lv_at hl 0 rfl) ?_
            refine lv_iconst (v := nI 2) hx hb dX3_marks_67 (by decide) ?_
            refine ev_i (va_runV (As := [.int (nI 2)]) (rest := []) ⟨hx, hb, hml, hown, hts⟩ (k_X3_fail l G (mT S) H.size (nI 2)) (cwV 1 hts gX3_marks_X3_fail rfl rfl rfl (by decide +kernel) ⟨Nat.le_of_ble_eq_true rfl, Nat.le_of_ble_eq_true rfl⟩) ⟨mQ_blind, m_recv hW hK, mQ_at hW hK hS⟩ rfl rfl hl.1 rfl (lv_room (Nat.le_of_ble_eq_true rfl)) dX3_marks_68 ⟨Nat.le_of_ble_eq_true rfl, Nat.le_of_ble_eq_true rfl⟩) hS (fun r_14 S_13 t9 H locs ht9 hS_13 hW hS => ?_)
            have hW : mW G S_13 H := ht9 ▸ hW
            obtain ⟨rfl, eS_13⟩ := hS_13
            refine lv_i2l (v := (nI 0).toInt64) hx hb dX3_marks_71 rfl ?_
            exact W.lret (v := (nI 0).toInt64) hx hb hr (fun t9 ht9 _ => ⟨⟨_, S_13, rfl, ⟨no0 (k := 2) (by unfold mcMarks; (try simp only [cn_n_5, cn_n_8, cn_n_12]); rw [if_pos d_16, if_pos c_43, if_pos d_59, if_pos c_63]) (by decide), (by rw [mF_no (by unfold mcMarks; (try simp only [cn_n_5, cn_n_8, cn_n_12]); rw [if_pos d_16, if_pos c_43, if_pos d_59, if_pos c_63]) (by decide)]; exact eS_13)⟩, (show mW G S_13 t9.heap by rw [ht9]; exact hW)⟩, hS.F ht9⟩) hS.2.2 dX3_marks_72
      · refine lv_aload_n hx hb dX3_marks_46 rfl (lv_at hl 0 rfl) ?_
        refine lv_iconst (v := nI 1) hx hb dX3_marks_47 (by decide) ?_
        refine ev_i (va_runV (As := [.int (nI 1)]) (rest := []) ⟨hx, hb, hml, hown, hts⟩ (k_X3_fail l G (mT S) H.size (nI 1)) (cwV 1 hts gX3_marks_X3_fail rfl rfl rfl (by decide +kernel) ⟨Nat.le_of_ble_eq_true rfl, Nat.le_of_ble_eq_true rfl⟩) ⟨mQ_blind, m_recv hW hK, mQ_at hW hK hS⟩ rfl rfl hl.1 rfl (lv_room (Nat.le_of_ble_eq_true rfl)) dX3_marks_48 ⟨Nat.le_of_ble_eq_true rfl, Nat.le_of_ble_eq_true rfl⟩) hS (fun r_16 S_15 t9 H locs ht9 hS_15 hW hS => ?_)
        have hW : mW G S_15 H := ht9 ▸ hW
        obtain ⟨rfl, eS_15⟩ := hS_15
        refine lv_i2l (v := (nI 0).toInt64) hx hb dX3_marks_51 rfl ?_
        exact W.lret (v := (nI 0).toInt64) hx hb hr (fun t9 ht9 _ => ⟨⟨_, S_15, rfl, ⟨no0 (k := 1) (by unfold mcMarks; (try simp only [cn_n_5]); rw [if_pos d_16, if_neg (ne_true_of_eq_false c_43)]) (by decide), (by rw [mF_no (by unfold mcMarks; (try simp only [cn_n_5]); rw [if_pos d_16, if_neg (ne_true_of_eq_false c_43)]) (by decide)]; exact eS_15)⟩, (show mW G S_15 t9.heap by rw [ht9]; exact hW)⟩, hS.F ht9⟩) hS.2.2 dX3_marks_52
