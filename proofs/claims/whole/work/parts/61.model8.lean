set_option maxHeartbeats 4000000 in
set_option maxRecDepth 100000 in
theorem k_X3_commit (l : Launch) (G : GT) (S : SS) (sz : Nat) {rc : Nat} (hrc : S.1 0 1 = nI rc) (h1r : 1 ≤ rc) (h40 : rc ≤ 40) (hbs : ∀ i, i < 2 → (¬ (mT S).1 11 i < 0) → ∃ b, b < 40 ∧ (mT S).1 11 i = nI b) (x : Int32) : Met l yX3_commit wsX3_commit ({ frames := 3, cells := 0, slots := 0, locals := 68 } : Room) (va_Pc [.ref (gA G 0), .int x] (fun U => U.heap.size = sz ∧ mP G S U)) (va_Qi (fun r S' => ((mcCommit (mT S) rc x) = 0 → r = nI rc) ∧ S' = mF (mT S) (mcCommit (mT S) rc x) (mdCommit (mT S) rc (cn x) (cn ((mT S).1 11 (cn x))))) (mB G) (gF G sz)) 0 0 (gF G sz) := by
  refine Met.ofW (cc := cX3_commit) (maxL := 8) (ret := (some .int)) (by decide) rfl ?_
  intro p e s m args below meth c s₁ B hml hv
  obtain ⟨rfl, hsz, hW, hK⟩ := hv
  subst hsz
  have hx := B.exec
  have hb := B.bytes
  have hr := B.returns
  have hts := atoms_spec (ws := wsX3_commit) B.pre
  have hown : s.vm.findClass RX3 = some m.cls := findClass_of_methodNamed B.named
  have hlocks := B.notSynchronized
  have hS : va_S (gF G s.heap.size) s.heap s.heap [] := va_S.rf
  have inX3 : ∀ w ∈ u_ws RX3 TX3 22, w ∈ wsX3_commit := by decide +kernel
  have hl := lv_entry ([.ref (gA G 0), .int x]) (n := 8) (Nat.le_of_ble_eq_true rfl)
  rw [lg_entry_eq]
  generalize (lg_sl ([.ref (gA G 0), .int x]) ++ List.replicate (8 - (lg_sl ([.ref (gA G 0), .int x])).length) Slot.unset).toArray = ls at hl ⊢
  have hl : lv_has ls 8 [(0, .ref (gA G 0)), (1, .int x)] := hl
  refine lv_aload_n hx hb dX3_commit_0 rfl (lv_at hl 0 rfl) ?_
  refine lv_iconst (v := nI 0) hx hb dX3_commit_1 (by decide) ?_
  refine va_put (D := gD G) (ci := 3) (v := .int (nI 0)) (ty := .int) (C := RX3) (T := TX3) (N := 22) hx hb hts inX3 tyX3 tyX3_ok nmX3 hown hK.1 hW (wl_D hK.2.1) hS 0 mw_0 rfl 0 (by decide) (hts (.fieldLink RX3 76 "MarkedTreesModel" "thrown" "I") (by decide +kernel)) (fun _ h9 => h9) rfl (by decide +kernel) rfl rfl (Nat.le_of_ble_eq_true rfl) dX3_commit_2 (fun H locs hW _ hS => ?_)
  have hW : mW G (s1 S 0 0 (nI 0)) H := mp_0_0 hW
  obtain ⟨S_1, eS_1⟩ : ∃ z, z = s1 S 0 0 (nI 0) := ⟨_, rfl⟩
  rw [← eS_1] at hW
  have hT : S_1 = mT S := eS_1
  subst hT
  have hrcT : (mT S).1 0 1 = nI rc := (mT_0 _ (by omega)).trans hrc
  refine lv_iload_n hx hb dX3_commit_5 rfl (lv_at hl 1 rfl) ?_
  refine pv_i (va_runS (As := [.int x]) (rest := []) ⟨hx, hb, hml, hown, hts⟩ (k_X3_isPeer l x) (va_cwS 1 hts gX3_commit_X3_isPeer rfl rfl rfl (by decide +kernel) ⟨Nat.le_of_ble_eq_true rfl, Nat.le_of_ble_eq_true rfl⟩) ⟨(fun _ _ _ _ h => h), fun U _ _ => ⟨rfl, trivial⟩⟩ rfl rfl hl.1 rfl (lv_room (Nat.le_of_ble_eq_true rfl)) dX3_commit_6 ⟨Nat.le_of_ble_eq_true rfl, Nat.le_of_ble_eq_true rfl⟩) (fun r_2 hr_2 => ?_)
  have hr_2 : r_2 = bI (isP x) := hr_2
  subst hr_2
  refine bv_if_ne (b := isP x) (tgt := 18) hx hb dX3_commit_9 (by decide) (fun c_9 => ?_) (fun c_9 => ?_)
  · obtain ⟨i_3, hi_3, rfl⟩ := isP_iff.mp c_9
    have cn_i_3 : cn (nI i_3) = i_3 := cn_nI (by omega)
    refine lv_bipush (v := nI 40) hx hb dX3_commit_18 (by decide) ?_
    refine lv_iload_n hx hb dX3_commit_20 rfl (lv_at hl 1 rfl) ?_
    refine nv_iadd hx hb dX3_commit_21 ?_
    refine lv_istore_n (lv' := [(2, .int (nI (40 + i_3))), (0, .ref (gA G 0)), (1, .int (nI i_3))]) hx hb dX3_commit_22 rfl hl (by decide) rfl (fun ls hl => ?_)
    refine lv_aload_n hx hb dX3_commit_23 rfl (lv_at hl 1 rfl) ?_
    refine va_get (D := gD G) (ci := 3) (v := .ref (gA G 11)) (C := RX3) (T := TX3) (N := 22) hx hb hts inX3 hown hK.1 hW 0 mw_0 rfl 13 (by decide) (hts (.fieldLink RX3 49 "MarkedTreesModel" "base" "[I") (by decide +kernel)) (fun _ h9 => h9) rfl dX3_commit_24 ?_
    refine lv_iload_n hx hb dX3_commit_27 rfl (lv_at hl 2 rfl) ?_
    refine nv_iald hx hb hK.1 hW 11 0 mw_11 rfl (i := i_3) (by omega) (by decide) dX3_commit_28 ?_
    refine lv_istore_n (lv' := [(3, .int ((mT S).1 11 i_3)), (2, .int (nI (40 + i_3))), (0, .ref (gA G 0)), (1, .int (nI i_3))]) hx hb dX3_commit_29 rfl hl (by decide) rfl (fun ls hl => ?_)
    refine lv_iload_n hx hb dX3_commit_30 rfl (lv_at hl 0 rfl) ?_
    refine lv_if_lt (tgt := 60) hx hb dX3_commit_31 (by decide) (fun c_31 => ?_) (fun c_31 => ?_)
    · refine lv_aload_n hx hb dX3_commit_60 rfl (lv_at hl 2 rfl) ?_
      refine lv_iconst (v := nI 2) hx hb dX3_commit_61 (by decide) ?_
      refine ev_i (va_runV (As := [.int (nI 2)]) (rest := []) ⟨hx, hb, hml, hown, hts⟩ (k_X3_fail l G (mT S) H.size (nI 2)) (cwV 1 hts gX3_commit_X3_fail rfl rfl rfl (by decide +kernel) ⟨Nat.le_of_ble_eq_true rfl, Nat.le_of_ble_eq_true rfl⟩) ⟨mQ_blind, m_recv hW hK, mQ_at hW hK hS⟩ rfl rfl hl.1 rfl (lv_room (Nat.le_of_ble_eq_true rfl)) dX3_commit_62 ⟨Nat.le_of_ble_eq_true rfl, Nat.le_of_ble_eq_true rfl⟩) hS (fun r_5 S_4 t9 H locs ht9 hS_4 hW hS => ?_)
      have hW : mW G S_4 H := ht9 ▸ hW
      obtain ⟨rfl, eS_4⟩ := hS_4
      exact W.iret (v := nI 0) hx hb hr (fun t9 ht9 _ => ⟨⟨_, S_4, rfl, ⟨no0 (k := 2) (by unfold mcCommit; (try simp only [cn_i_3]); rw [if_pos (isP_nI hi_3), if_pos c_31]) (by decide), (by rw [mF_no (by unfold mcCommit; (try simp only [cn_i_3]); rw [if_pos (isP_nI hi_3), if_pos c_31]) (by decide)]; exact eS_4)⟩, (show mW G S_4 t9.heap by rw [ht9]; exact hW)⟩, hS.F ht9⟩) hS.2.2 dX3_commit_65
    · obtain ⟨b1, hb1, eb1⟩ := hbs i_3 hi_3 c_31
      have cb1 : cn ((mT S).1 11 i_3) = b1 := by rw [eb1]; exact cn_nI (by omega)
      rw [eb1] at hl
      refine lv_aload_n hx hb dX3_commit_34 rfl (lv_at hl 2 rfl) ?_
      refine lv_iload_n hx hb dX3_commit_35 rfl (lv_at hl 1 rfl) ?_
      refine lv_iload_n hx hb dX3_commit_36 rfl (lv_at hl 0 rfl) ?_
      refine lv_if_ge (tgt := 44) hx hb dX3_commit_37 (by decide) (fun c_37 => ?_) (fun c_37 => ?_)
      · refine lv_iload_n hx hb dX3_commit_44 rfl (lv_at hl 0 rfl) ?_
        refine pv_i (va_runV (As := [.int (nI (40 + i_3)), .int (nI b1)]) (rest := []) ⟨hx, hb, hml, hown, hts⟩ (k_X3_equalTrees l G (mT S) (t := 40 + i_3) (u := b1) (by omega) (by omega)) (cwV 2 hts gX3_commit_X3_equalTrees rfl rfl rfl (by decide +kernel) ⟨Nat.le_of_ble_eq_true rfl, Nat.le_of_ble_eq_true rfl⟩) ⟨mP_blind, m_recv hW hK, mP_at hW hK hS⟩ rfl rfl hl.1 rfl (lv_room (Nat.le_of_ble_eq_true rfl)) dX3_commit_45 ⟨Nat.le_of_ble_eq_true rfl, Nat.le_of_ble_eq_true rfl⟩) (fun r_6 hr_6 => ?_)
        have hr_6 : r_6 = bI (eqT (mT S) (40 + i_3) b1) := hr_6
        subst hr_6
        refine bv_if_ne (b := eqT (mT S) (40 + i_3) b1) (tgt := 60) hx hb dX3_commit_48 (by decide) (fun c_48 => ?_) (fun c_48 => ?_)
        · have c48 := c_48
          refine lv_aload_n hx hb dX3_commit_60 rfl (lv_at hl 2 rfl) ?_
          refine lv_iconst (v := nI 2) hx hb dX3_commit_61 (by decide) ?_
          refine ev_i (va_runV (As := [.int (nI 2)]) (rest := []) ⟨hx, hb, hml, hown, hts⟩ (k_X3_fail l G (mT S) H.size (nI 2)) (cwV 1 hts gX3_commit_X3_fail rfl rfl rfl (by decide +kernel) ⟨Nat.le_of_ble_eq_true rfl, Nat.le_of_ble_eq_true rfl⟩) ⟨mQ_blind, m_recv hW hK, mQ_at hW hK hS⟩ rfl rfl hl.1 rfl (lv_room (Nat.le_of_ble_eq_true rfl)) dX3_commit_62 ⟨Nat.le_of_ble_eq_true rfl, Nat.le_of_ble_eq_true rfl⟩) hS (fun r_8 S_7 t9 H locs ht9 hS_7 hW hS => ?_)
          have hW : mW G S_7 H := ht9 ▸ hW
          obtain ⟨rfl, eS_7⟩ := hS_7
          exact W.iret (v := nI 0) hx hb hr (fun t9 ht9 _ => ⟨⟨_, S_7, rfl, ⟨no0 (k := 2) (by unfold mcCommit; (try simp only [cn_i_3, cb1]); rw [if_pos (isP_nI hi_3), if_neg c_31, if_pos c48]) (by decide), (by rw [mF_no (by unfold mcCommit; (try simp only [cn_i_3, cb1]); rw [if_pos (isP_nI hi_3), if_neg c_31, if_pos c48]) (by decide)]; exact eS_7)⟩, (show mW G S_7 t9.heap by rw [ht9]; exact hW)⟩, hS.F ht9⟩) hS.2.2 dX3_commit_65
        · have c48 := c_48
          refine lv_aload_n hx hb dX3_commit_51 rfl (lv_at hl 2 rfl) ?_
          refine va_get (D := gD G) (ci := 3) (v := .int (nI rc)) (C := RX3) (T := TX3) (N := 22) hx hb hts inX3 hown hK.1 hW 0 mw_0 rfl 1 (by decide) (hts (.fieldLink RX3 7 "MarkedTreesModel" "revisions" "I") (by decide +kernel)) (fun _ h9 => h9) (by rw [← hrcT]; rfl) dX3_commit_52 ?_
          refine lv_bipush (v := nI 40) hx hb dX3_commit_55 (by decide) ?_
          refine nv_icmp_ne (tgt := 66) hx hb (by omega) (by omega) dX3_commit_57 (by decide) (fun c_57 => ?_) (fun c_57 => ?_)
          · refine lv_aload_n hx hb dX3_commit_66 rfl (lv_at hl 2 rfl) ?_
            refine va_get (D := gD G) (ci := 3) (v := .int (nI rc)) (C := RX3) (T := TX3) (N := 22) hx hb hts inX3 hown hK.1 hW 0 mw_0 rfl 1 (by decide) (hts (.fieldLink RX3 7 "MarkedTreesModel" "revisions" "I") (by decide +kernel)) (fun _ h9 => h9) (by rw [← hrcT]; rfl) dX3_commit_67 ?_
            refine lv_istore (lv' := [(4, .int (nI rc)), (3, .int (nI b1)), (2, .int (nI (40 + i_3))), (0, .ref (gA G 0)), (1, .int (nI i_3))]) hx hb dX3_commit_70 hl (by decide) rfl (fun ls hl => ?_)
            refine lv_aload_n hx hb dX3_commit_72 rfl (lv_at hl 3 rfl) ?_
            refine lv_dup hx hb dX3_commit_73 rfl ?_
            refine va_get (D := gD G) (ci := 3) (v := .int (nI rc)) (C := RX3) (T := TX3) (N := 22) hx hb hts inX3 hown hK.1 hW 0 mw_0 rfl 1 (by decide) (hts (.fieldLink RX3 7 "MarkedTreesModel" "revisions" "I") (by decide +kernel)) (fun _ h9 => h9) (by rw [← hrcT]; rfl) dX3_commit_74 ?_
            refine lv_iconst (v := nI 1) hx hb dX3_commit_77 (by decide) ?_
            refine nv_iadd hx hb dX3_commit_78 ?_
            refine va_put (D := gD G) (ci := 3) (v := .int (nI (rc + 1))) (ty := .int) (C := RX3) (T := TX3) (N := 22) hx hb hts inX3 tyX3 tyX3_ok nmX3 hown hK.1 hW (wl_D hK.2.1) hS 0 mw_0 rfl 1 (by decide) (hts (.fieldLink RX3 7 "MarkedTreesModel" "revisions" "I") (by decide +kernel)) (fun _ h9 => h9) rfl (by decide +kernel) rfl rfl (Nat.le_of_ble_eq_true rfl) dX3_commit_79 (fun H locs hW _ hS => ?_)
            have hW : mW G (s1 (mT S) 0 1 (nI (rc + 1))) H := mp_0_1 hW
            obtain ⟨S_9, eS_9⟩ : ∃ z, z = s1 (mT S) 0 1 (nI (rc + 1)) := ⟨_, rfl⟩
            rw [← eS_9] at hW
            refine lv_aload_n hx hb dX3_commit_82 rfl (lv_at hl 3 rfl) ?_
            refine va_get (D := gD G) (ci := 3) (v := .ref (gA G 1)) (C := RX3) (T := TX3) (N := 22) hx hb hts inX3 hown hK.1 hW 0 mw_0 rfl 2 (by decide) (hts (.fieldLink RX3 13 "MarkedTreesModel" "ancestors" "[J") (by decide +kernel)) (fun _ h9 => h9) rfl dX3_commit_83 ?_
            refine lv_iload hx hb dX3_commit_86 (lv_at hl 0 rfl) ?_
            refine lv_aload_n hx hb dX3_commit_88 rfl (lv_at hl 3 rfl) ?_
            refine va_get (D := gD G) (ci := 3) (v := .ref (gA G 1)) (C := RX3) (T := TX3) (N := 22) hx hb hts inX3 hown hK.1 hW 0 mw_0 rfl 2 (by decide) (hts (.fieldLink RX3 13 "MarkedTreesModel" "ancestors" "[J") (by decide +kernel)) (fun _ h9 => h9) rfl dX3_commit_89 ?_
            refine lv_iload_n hx hb dX3_commit_92 rfl (lv_at hl 1 rfl) ?_
            refine nv_lald hx hb hK.1 hW 1 1 mw_1 rfl (i := b1) (by omega) (by decide) dX3_commit_93 ?_
            refine lv_lconst (v := 1) hx hb dX3_commit_94 (by decide) ?_
            refine lv_iload_n hx hb dX3_commit_95 rfl (lv_at hl 1 rfl) ?_
            refine lv_lshl (v := 1 <<< ((nI b1).toInt64 &&& 63)) hx hb dX3_commit_96 rfl ?_
            refine lv_lor hx hb dX3_commit_97 ?_
            refine nv_last hx hb hK.1 hW (wl_D hK.2.1) hS 1 1 mw_1 rfl (i := rc) (by omega) (by decide) dX3_commit_98 (fun H locs hW hS => ?_)
            have hW : mW G (s2 S_9 1 rc ((S_9.2 1 b1) ||| (1 <<< ((nI b1).toInt64 &&& 63)))) H := mp_1 hW
            obtain ⟨S_10, eS_10⟩ : ∃ z, z = s2 S_9 1 rc ((S_9.2 1 b1) ||| (1 <<< ((nI b1).toInt64 &&& 63))) := ⟨_, rfl⟩
            rw [← eS_10] at hW
            refine lv_aload_n hx hb dX3_commit_99 rfl (lv_at hl 3 rfl) ?_
            refine lv_iload_n hx hb dX3_commit_100 rfl (lv_at hl 2 rfl) ?_
            refine lv_iload hx hb dX3_commit_101 (lv_at hl 0 rfl) ?_
            refine ev_v (va_runV (As := [.int (nI (40 + i_3)), .int (nI rc)]) (rest := []) ⟨hx, hb, hml, hown, hts⟩ (k_X3_copyTree l G S_10 H.size (f := 40 + i_3) (t := rc) (by omega) (by omega)) (cwV 2 hts gX3_commit_X3_copyTree rfl rfl rfl (by decide +kernel) ⟨Nat.le_of_ble_eq_true rfl, Nat.le_of_ble_eq_true rfl⟩) ⟨mQ_blind, m_recv hW hK, mQ_at hW hK hS⟩ rfl rfl hl.1 rfl (lv_room (Nat.le_of_ble_eq_true rfl)) dX3_commit_103 ⟨Nat.le_of_ble_eq_true rfl, Nat.le_of_ble_eq_true rfl⟩) hS (fun S_11 t9 H locs ht9 hS_11 hW hS => ?_)
            have hW : mW G S_11 H := ht9 ▸ hW
            refine lv_iconst (v := nI 1) hx hb dX3_commit_106 (by decide) ?_
            refine lv_istore (lv' := [(5, .int (nI 1)), (4, .int (nI rc)), (3, .int (nI b1)), (2, .int (nI (40 + i_3))), (0, .ref (gA G 0)), (1, .int (nI i_3))]) hx hb dX3_commit_107 hl (by decide) rfl (fun ls hl => ?_)
            have LP : ∀ (k : Nat) (n : Nat) (Q : SS) (H : Heap) (locs : List Loc), (mW G Q H) → (va_S (gF G s.heap.size) s.heap H locs) → (1 ≤ n) → (n + k = 16) → ∀ (ls : Array Slot), lv_has ls 8 [(0, .ref (gA G 0)), (1, .int (nI i_3)), (3, .int (nI b1)), (4, .int (nI rc)), (5, .int (nI n))] → W p l e (headSpec wsX3_commit ({ frames := 3, cells := 0, slots := 0, locals := 68 } : Room)).room s m ([.ref (gA G 0), .int (nI i_3)] : List Value).toArray below meth c H locs 0 0 (MQ below (va_Qi (fun r S' => ((mcCommit (mT S) rc (nI i_3)) = 0 → r = nI rc) ∧ S' = mkF i_3 rc (mkN rc b1 k n Q)) (mB G) (gF G s.heap.size)) ([.ref (gA G 0), .int (nI i_3)] : List Value).toArray s 0 0 (gF G s.heap.size)) (F0 m 109 ls []) := by
              intro k
              induction k with
              | zero =>
                intro n Q H locs hW hS h1 h2 ls hl
                refine lv_iload hx hb dX3_commit_109 (lv_at hl 4 rfl) ?_
                refine lv_bipush (v := nI 16) hx hb dX3_commit_111 (by decide) ?_
                refine nv_icmp_ge (tgt := 250) hx hb (by omega) (by omega) dX3_commit_113 (by decide) (fun c_113 => ?_) (fun c_113 => ?_)
                · refine lv_aload_n hx hb dX3_commit_250 rfl (lv_at hl 0 rfl) ?_
                  refine va_get (D := gD G) (ci := 3) (v := .ref (gA G 10)) (C := RX3) (T := TX3) (N := 22) hx hb hts inX3 hown hK.1 hW 0 mw_0 rfl 12 (by decide) (hts (.fieldLink RX3 46 "MarkedTreesModel" "have" "[J") (by decide +kernel)) (fun _ h9 => h9) rfl dX3_commit_251 ?_
                  refine lv_iload_n hx hb dX3_commit_254 rfl (lv_at hl 1 rfl) ?_
                  refine lv_dup2_11 hx hb dX3_commit_255 rfl rfl ?_
                  refine nv_lald hx hb hK.1 hW 10 1 mw_10 rfl (i := i_3) (by omega) (by decide) dX3_commit_256 ?_
                  refine lv_lconst (v := 1) hx hb dX3_commit_257 (by decide) ?_
                  refine lv_iload hx hb dX3_commit_258 (lv_at hl 3 rfl) ?_
                  refine lv_lshl (v := 1 <<< ((nI rc).toInt64 &&& 63)) hx hb dX3_commit_260 rfl ?_
                  refine lv_lor hx hb dX3_commit_261 ?_
                  refine nv_last hx hb hK.1 hW (wl_D hK.2.1) hS 10 1 mw_10 rfl (i := i_3) (by omega) (by decide) dX3_commit_262 (fun H locs hW hS => ?_)
                  have hW : mW G (s2 Q 10 i_3 ((Q.2 10 i_3) ||| (1 <<< ((nI rc).toInt64 &&& 63)))) H := mp_10 hW
                  obtain ⟨S_12, eS_12⟩ : ∃ z, z = s2 Q 10 i_3 ((Q.2 10 i_3) ||| (1 <<< ((nI rc).toInt64 &&& 63))) := ⟨_, rfl⟩
                  rw [← eS_12] at hW
                  refine lv_aload_n hx hb dX3_commit_263 rfl (lv_at hl 0 rfl) ?_
                  refine va_get (D := gD G) (ci := 3) (v := .ref (gA G 11)) (C := RX3) (T := TX3) (N := 22) hx hb hts inX3 hown hK.1 hW 0 mw_0 rfl 13 (by decide) (hts (.fieldLink RX3 49 "MarkedTreesModel" "base" "[I") (by decide +kernel)) (fun _ h9 => h9) rfl dX3_commit_264 ?_
                  refine lv_iload_n hx hb dX3_commit_267 rfl (lv_at hl 1 rfl) ?_
                  refine lv_iload hx hb dX3_commit_268 (lv_at hl 3 rfl) ?_
                  refine nv_iast hx hb hK.1 hW (wl_D hK.2.1) hS 11 0 mw_11 rfl (i := i_3) (by omega) (by decide) dX3_commit_270 (fun H locs hW hS => ?_)
                  have hW : mW G (s1 S_12 11 i_3 (nI rc)) H := mp_11 hW
                  obtain ⟨S_13, eS_13⟩ : ∃ z, z = s1 S_12 11 i_3 (nI rc) := ⟨_, rfl⟩
                  rw [← eS_13] at hW
                  refine lv_iload hx hb dX3_commit_271 (lv_at hl 3 rfl) ?_
                  exact W.iret (v := nI rc) hx hb hr (fun t9 ht9 _ => ⟨⟨_, S_13, rfl, ⟨fun _ => rfl, by subst_vars; rfl⟩, (show mW G S_13 t9.heap by rw [ht9]; exact hW)⟩, hS.F ht9⟩) hS.2.2 dX3_commit_273
                · exact absurd c_113 (by omega)
              | succ k ih =>
                intro n Q H locs hW hS h1 h2 ls hl
                refine lv_iload hx hb dX3_commit_109 (lv_at hl 4 rfl) ?_
                refine lv_bipush (v := nI 16) hx hb dX3_commit_111 (by decide) ?_
                refine nv_icmp_ge (tgt := 250) hx hb (by omega) (by omega) dX3_commit_113 (by decide) (fun c_113 => ?_) (fun c_113 => ?_)
                · exact absurd c_113 (by omega)
                · refine lv_aload_n hx hb dX3_commit_116 rfl (lv_at hl 0 rfl) ?_
                  refine lv_iload hx hb dX3_commit_117 (lv_at hl 3 rfl) ?_
                  refine lv_iload hx hb dX3_commit_119 (lv_at hl 4 rfl) ?_
                  refine pv_i (va_runV (As := [.int (nI rc), .int (nI n)]) (rest := []) ⟨hx, hb, hml, hown, hts⟩ (k_X3_isAlive l G Q (t := rc) (by omega) (nI n)) (cwV 2 hts gX3_commit_X3_isAlive rfl rfl rfl (by decide +kernel) ⟨Nat.le_of_ble_eq_true rfl, Nat.le_of_ble_eq_true rfl⟩) ⟨mP_blind, m_recv hW hK, mP_at hW hK hS⟩ rfl rfl hl.1 rfl (lv_room (Nat.le_of_ble_eq_true rfl)) dX3_commit_121 ⟨Nat.le_of_ble_eq_true rfl, Nat.le_of_ble_eq_true rfl⟩) (fun r_14 hr_14 => ?_)
                  rw [mAl_nI Q rc (by omega)] at hr_14
                  subst hr_14
                  refine bv_if_eq (b := ti (Q.1 4 rc) n) (tgt := 244) hx hb dX3_commit_124 (by decide) (fun c_124 => ?_) (fun c_124 => ?_)
                  · refine lv_iinc (v := nI (n + 1)) (lv' := [(5, .int (nI (n + 1))), (0, .ref (gA G 0)), (1, .int (nI i_3)), (3, .int (nI b1)), (4, .int (nI rc))]) hx hb dX3_commit_244 hl (k := 4) rfl (nI_add n 1) (by decide) rfl (fun ls hl => ?_)
                    refine lv_goto (tgt := 109) hx hb dX3_commit_247 (by decide) ?_
                    have E : mkN rc b1 (k + 1) n Q = mkN rc b1 k (n + 1) Q := by rw [mkN, mkI, if_neg (ne_true_of_eq_false c_124)]
                    rw [E]
                    exact ih (n + 1) Q H locs hW hS (by omega) (by omega) ls (lv_sub hl [1, 2, 3, 4, 0] rfl)
                  · refine lv_aload_n hx hb dX3_commit_127 rfl (lv_at hl 0 rfl) ?_
                    refine lv_iload_n hx hb dX3_commit_128 rfl (lv_at hl 2 rfl) ?_
                    refine lv_iload hx hb dX3_commit_129 (lv_at hl 4 rfl) ?_
                    refine pv_i (va_runV (As := [.int (nI b1), .int (nI n)]) (rest := []) ⟨hx, hb, hml, hown, hts⟩ (k_X3_isAlive l G Q (t := b1) (by omega) (nI n)) (cwV 2 hts gX3_commit_X3_isAlive rfl rfl rfl (by decide +kernel) ⟨Nat.le_of_ble_eq_true rfl, Nat.le_of_ble_eq_true rfl⟩) ⟨mP_blind, m_recv hW hK, mP_at hW hK hS⟩ rfl rfl hl.1 rfl (lv_room (Nat.le_of_ble_eq_true rfl)) dX3_commit_131 ⟨Nat.le_of_ble_eq_true rfl, Nat.le_of_ble_eq_true rfl⟩) (fun r_15 hr_15 => ?_)
                    rw [mAl_nI Q b1 (by omega)] at hr_15
                    subst hr_15
                    refine bv_if_ne (b := ti (Q.1 4 b1) n) (tgt := 141) hx hb dX3_commit_134 (by decide) (fun c_134 => ?_) (fun c_134 => ?_)
                    · refine lv_iconst (v := nI 0) hx hb dX3_commit_141 (by decide) ?_
                      refine lv_istore (lv' := [(6, .int (nI 0)), (0, .ref (gA G 0)), (1, .int (nI i_3)), (3, .int (nI b1)), (4, .int (nI rc)), (5, .int (nI n))]) hx hb dX3_commit_142 hl (by decide) rfl (fun ls hl => ?_)
                      refine lv_aload_n hx hb dX3_commit_144 rfl (lv_at hl 1 rfl) ?_
                      refine va_get (D := gD G) (ci := 3) (v := .ref (gA G 3)) (C := RX3) (T := TX3) (N := 22) hx hb hts inX3 hown hK.1 hW 0 mw_0 rfl 5 (by decide) (hts (.fieldLink RX3 24 "MarkedTreesModel" "birth" "[I") (by decide +kernel)) (fun _ h9 => h9) rfl dX3_commit_145 ?_
                      refine lv_iload hx hb dX3_commit_148 (lv_at hl 5 rfl) ?_
                      refine lv_iload hx hb dX3_commit_150 (lv_at hl 0 rfl) ?_
                      refine lv_if_eq (tgt := 160) hx hb dX3_commit_152 (by decide) (fun c_152 => ?_) (fun c_152 => ?_)
                      · refine lv_aload_n hx hb dX3_commit_160 rfl (lv_at hl 1 rfl) ?_
                        refine va_get (D := gD G) (ci := 3) (v := .ref (gA G 3)) (C := RX3) (T := TX3) (N := 22) hx hb hts inX3 hown hK.1 hW 0 mw_0 rfl 5 (by decide) (hts (.fieldLink RX3 24 "MarkedTreesModel" "birth" "[I") (by decide +kernel)) (fun _ h9 => h9) rfl dX3_commit_161 ?_
                        refine lv_iload hx hb dX3_commit_164 (lv_at hl 5 rfl) ?_
                        refine nv_iald hx hb hK.1 hW 3 0 mw_3 rfl (i := n) (by omega) (by decide) dX3_commit_166 ?_
                        refine nv_iast hx hb hK.1 hW (wl_D hK.2.1) hS 3 0 mw_3 rfl (i := n) (by omega) (by decide) dX3_commit_167 (fun H locs hW hS => ?_)
                        have hW : mW G (s1 Q 3 n (Q.1 3 n)) H := mp_3 hW
                        obtain ⟨S_16, eS_16⟩ : ∃ z, z = s1 Q 3 n (Q.1 3 n) := ⟨_, rfl⟩
                        rw [← eS_16] at hW
                        refine lv_iconst (v := nI 0) hx hb dX3_commit_168 (by decide) ?_
                        refine lv_istore (lv' := [(7, .int (nI 0)), (6, .int (nI 0)), (0, .ref (gA G 0)), (1, .int (nI i_3)), (3, .int (nI b1)), (4, .int (nI rc)), (5, .int (nI n))]) hx hb dX3_commit_169 hl (by decide) rfl (fun ls hl => ?_)
                        have LQ : ∀ (k2 : Nat) (w : Nat) (Q2 : SS) (H : Heap) (locs : List Loc), (mW G Q2 H) → (va_S (gF G s.heap.size) s.heap H locs) → (w + k2 = 3) → ∀ (ls : Array Slot), lv_has ls 8 [(0, .ref (gA G 0)), (1, .int (nI i_3)), (3, .int (nI b1)), (4, .int (nI rc)), (5, .int (nI n)), (6, .int (nI 0)), (7, .int (nI w))] → W p l e (headSpec wsX3_commit ({ frames := 3, cells := 0, slots := 0, locals := 68 } : Room)).room s m ([.ref (gA G 0), .int (nI i_3)] : List Value).toArray below meth c H locs 0 0 (MQ below (va_Qi (fun r S' => ((mcCommit (mT S) rc (nI i_3)) = 0 → r = nI rc) ∧ S' = mkF i_3 rc (mkN rc b1 k (n + 1) (mkW rc b1 n false k2 w Q2))) (mB G) (gF G s.heap.size)) ([.ref (gA G 0), .int (nI i_3)] : List Value).toArray s 0 0 (gF G s.heap.size)) (F0 m 171 ls []) := by
                          intro k2
                          induction k2 with
                          | zero =>
                            intro w Q2 H locs hW hS h3 ls hl
                            refine lv_iload hx hb dX3_commit_171 (lv_at hl 6 rfl) ?_
                            refine lv_iconst (v := nI 3) hx hb dX3_commit_173 (by decide) ?_
                            refine nv_icmp_ge (tgt := 244) hx hb (by omega) (by omega) dX3_commit_174 (by decide) (fun c_174 => ?_) (fun c_174 => ?_)
                            · refine lv_iinc (v := nI (n + 1)) (lv' := [(5, .int (nI (n + 1))), (0, .ref (gA G 0)), (1, .int (nI i_3)), (3, .int (nI b1)), (4, .int (nI rc)), (6, .int (nI 0)), (7, .int (nI w))]) hx hb dX3_commit_244 hl (k := 4) rfl (nI_add n 1) (by decide) rfl (fun ls hl => ?_)
                              refine lv_goto (tgt := 109) hx hb dX3_commit_247 (by decide) ?_
                              exact ih (n + 1) Q2 H locs hW hS (by omega) (by omega) ls (lv_sub hl [1, 2, 3, 4, 0] rfl)
                            · exact absurd c_174 (by omega)
                          | succ k2 ih2 =>
                            intro w Q2 H locs hW hS h3 ls hl
                            refine lv_iload hx hb dX3_commit_171 (lv_at hl 6 rfl) ?_
                            refine lv_iconst (v := nI 3) hx hb dX3_commit_173 (by decide) ?_
                            refine nv_icmp_ge (tgt := 244) hx hb (by omega) (by omega) dX3_commit_174 (by decide) (fun c_174 => ?_) (fun c_174 => ?_)
                            · exact absurd c_174 (by omega)
                            · refine lv_aload_n hx hb dX3_commit_177 rfl (lv_at hl 0 rfl) ?_
                              refine va_get (D := gD G) (ci := 3) (v := .ref (gA G 9)) (C := RX3) (T := TX3) (N := 22) hx hb hts inX3 hown hK.1 hW 0 mw_0 rfl 11 (by decide) (hts (.fieldLink RX3 43 "MarkedTreesModel" "marks" "[J") (by decide +kernel)) (fun _ h9 => h9) rfl dX3_commit_178 ?_
                              refine lv_bipush (v := nI 48) hx hb dX3_commit_181 (by decide) ?_
                              refine lv_iload hx hb dX3_commit_183 (lv_at hl 3 rfl) ?_
                              refine nv_imul hx hb dX3_commit_185 ?_
                              refine lv_iconst (v := nI 3) hx hb dX3_commit_186 (by decide) ?_
                              refine lv_iload hx hb dX3_commit_187 (lv_at hl 4 rfl) ?_
                              refine nv_imul hx hb dX3_commit_189 ?_
                              refine nv_iadd hx hb dX3_commit_190 ?_
                              refine lv_iload hx hb dX3_commit_191 (lv_at hl 6 rfl) ?_
                              refine nv_iadd hx hb dX3_commit_193 ?_
                              refine lv_iload hx hb dX3_commit_194 (lv_at hl 5 rfl) ?_
                              refine lv_if_ne (tgt := 213) hx hb dX3_commit_196 (by decide) (fun c_196 => ?_) (fun c_196 => ?_)
                              · exact absurd c_196 (by decide)
                              · refine lv_aload_n hx hb dX3_commit_199 rfl (lv_at hl 0 rfl) ?_
                                refine lv_iload hx hb dX3_commit_200 (lv_at hl 3 rfl) ?_
                                refine lv_iload_n hx hb dX3_commit_202 rfl (lv_at hl 2 rfl) ?_
                                refine lv_iload hx hb dX3_commit_203 (lv_at hl 4 rfl) ?_
                                refine lv_iload hx hb dX3_commit_205 (lv_at hl 6 rfl) ?_
                                refine pv_i (va_runV (As := [.int (nI rc), .int (nI b1), .int (nI n), .int (nI w)]) (rest := [.int (nI (((48 * rc) + (3 * n)) + w)), .ref (gA G 9)]) ⟨hx, hb, hml, hown, hts⟩ (k_X3_same l G Q2 (t := rc) (u := b1) (n := n) (k := w) (by omega) (by omega) (by omega) (by omega)) (cwV 4 hts gX3_commit_X3_same rfl rfl rfl (by decide +kernel) ⟨Nat.le_of_ble_eq_true rfl, Nat.le_of_ble_eq_true rfl⟩) ⟨mP_blind, m_recv hW hK, mP_at hW hK hS⟩ rfl rfl hl.1 rfl (lv_room (Nat.le_of_ble_eq_true rfl)) dX3_commit_207 ⟨Nat.le_of_ble_eq_true rfl, Nat.le_of_ble_eq_true rfl⟩) (fun r_17 hr_17 => ?_)
                                have hr_17 : r_17 = bI (sameM Q2 rc b1 n w) := hr_17
                                subst hr_17
                                refine bv_if_ne (b := sameM Q2 rc b1 n w) (tgt := 220) hx hb dX3_commit_210 (by decide) (fun c_210 => ?_) (fun c_210 => ?_)
                                · refine lv_aload_n hx hb dX3_commit_220 rfl (lv_at hl 0 rfl) ?_
                                  refine va_get (D := gD G) (ci := 3) (v := .ref (gA G 9)) (C := RX3) (T := TX3) (N := 22) hx hb hts inX3 hown hK.1 hW 0 mw_0 rfl 11 (by decide) (hts (.fieldLink RX3 43 "MarkedTreesModel" "marks" "[J") (by decide +kernel)) (fun _ h9 => h9) rfl dX3_commit_221 ?_
                                  refine lv_bipush (v := nI 48) hx hb dX3_commit_224 (by decide) ?_
                                  refine lv_iload_n hx hb dX3_commit_226 rfl (lv_at hl 2 rfl) ?_
                                  refine nv_imul hx hb dX3_commit_227 ?_
                                  refine lv_iconst (v := nI 3) hx hb dX3_commit_228 (by decide) ?_
                                  refine lv_iload hx hb dX3_commit_229 (lv_at hl 4 rfl) ?_
                                  refine nv_imul hx hb dX3_commit_231 ?_
                                  refine nv_iadd hx hb dX3_commit_232 ?_
                                  refine lv_iload hx hb dX3_commit_233 (lv_at hl 6 rfl) ?_
                                  refine nv_iadd hx hb dX3_commit_235 ?_
                                  refine nv_lald hx hb hK.1 hW 9 1 mw_9 rfl (i := ((48 * b1) + (3 * n)) + w) (by omega) (by decide) dX3_commit_236 ?_
                                  refine nv_last hx hb hK.1 hW (wl_D hK.2.1) hS 9 1 mw_9 rfl (i := ((48 * rc) + (3 * n)) + w) (by omega) (by decide) dX3_commit_237 (fun H locs hW hS => ?_)
                                  have hW : mW G (s2 Q2 9 (((48 * rc) + (3 * n)) + w) (Q2.2 9 (((48 * b1) + (3 * n)) + w))) H := mp_9 hW
                                  obtain ⟨S_18, eS_18⟩ : ∃ z, z = s2 Q2 9 (((48 * rc) + (3 * n)) + w) (Q2.2 9 (((48 * b1) + (3 * n)) + w)) := ⟨_, rfl⟩
                                  rw [← eS_18] at hW
                                  refine lv_iinc (v := nI (w + 1)) (lv' := [(7, .int (nI (w + 1))), (0, .ref (gA G 0)), (1, .int (nI i_3)), (3, .int (nI b1)), (4, .int (nI rc)), (5, .int (nI n)), (6, .int (nI 0))]) hx hb dX3_commit_238 hl (k := 6) rfl (nI_add w 1) (by decide) rfl (fun ls hl => ?_)
                                  refine lv_goto (tgt := 171) hx hb dX3_commit_241 (by decide) ?_
                                  have E : mkW rc b1 n false (k2 + 1) w Q2 = mkW rc b1 n false k2 (w + 1) S_18 := by rw [mkW, if_neg (fun h => h.elim (fun z => Bool.false_ne_true z) (fun z => absurd (c_210.symm.trans z) (by decide))), eS_18]; try rfl
                                  rw [E]
                                  exact ih2 (w + 1) S_18 H locs hW hS (by omega) ls (lv_sub hl [1, 2, 3, 4, 5, 6, 0] rfl)
                                · refine lv_lconst (v := 1) hx hb dX3_commit_213 (by decide) ?_
                                  refine lv_iload hx hb dX3_commit_214 (lv_at hl 3 rfl) ?_
                                  refine lv_lshl (v := 1 <<< ((nI rc).toInt64 &&& 63)) hx hb dX3_commit_216 rfl ?_
                                  refine lv_goto (tgt := 237) hx hb dX3_commit_217 (by decide) ?_
                                  refine nv_last hx hb hK.1 hW (wl_D hK.2.1) hS 9 1 mw_9 rfl (i := ((48 * rc) + (3 * n)) + w) (by omega) (by decide) dX3_commit_237 (fun H locs hW hS => ?_)
                                  have hW : mW G (s2 Q2 9 (((48 * rc) + (3 * n)) + w) (1 <<< ((nI rc).toInt64 &&& 63))) H := mp_9 hW
                                  obtain ⟨S_19, eS_19⟩ : ∃ z, z = s2 Q2 9 (((48 * rc) + (3 * n)) + w) (1 <<< ((nI rc).toInt64 &&& 63)) := ⟨_, rfl⟩
                                  rw [← eS_19] at hW
                                  refine lv_iinc (v := nI (w + 1)) (lv' := [(7, .int (nI (w + 1))), (0, .ref (gA G 0)), (1, .int (nI i_3)), (3, .int (nI b1)), (4, .int (nI rc)), (5, .int (nI n)), (6, .int (nI 0))]) hx hb dX3_commit_238 hl (k := 6) rfl (nI_add w 1) (by decide) rfl (fun ls hl => ?_)
                                  refine lv_goto (tgt := 171) hx hb dX3_commit_241 (by decide) ?_
                                  have E : mkW rc b1 n false (k2 + 1) w Q2 = mkW rc b1 n false k2 (w + 1) S_19 := by rw [mkW, if_pos (Or.inr c_210), eS_19]; try rfl
                                  rw [E]
                                  exact ih2 (w + 1) S_19 H locs hW hS (by omega) ls (lv_sub hl [1, 2, 3, 4, 5, 6, 0] rfl)
                        have E : mkN rc b1 (k + 1) n Q = mkN rc b1 k (n + 1) (mkW rc b1 n false 3 0 S_16) := by rw [mkN, mkI, if_pos c_124, if_pos c_134, eS_16]
                        rw [E]
                        exact LQ 3 0 S_16 H locs hW hS (by omega) ls (lv_sub hl [2, 3, 4, 5, 6, 1, 0] rfl)
                      · exact absurd c_152 (by decide)
                    · refine lv_iconst (v := nI 1) hx hb dX3_commit_137 (by decide) ?_
                      refine lv_goto (tgt := 142) hx hb dX3_commit_138 (by decide) ?_
                      refine lv_istore (lv' := [(6, .int (nI 1)), (0, .ref (gA G 0)), (1, .int (nI i_3)), (3, .int (nI b1)), (4, .int (nI rc)), (5, .int (nI n))]) hx hb dX3_commit_142 hl (by decide) rfl (fun ls hl => ?_)
                      refine lv_aload_n hx hb dX3_commit_144 rfl (lv_at hl 1 rfl) ?_
                      refine va_get (D := gD G) (ci := 3) (v := .ref (gA G 3)) (C := RX3) (T := TX3) (N := 22) hx hb hts inX3 hown hK.1 hW 0 mw_0 rfl 5 (by decide) (hts (.fieldLink RX3 24 "MarkedTreesModel" "birth" "[I") (by decide +kernel)) (fun _ h9 => h9) rfl dX3_commit_145 ?_
                      refine lv_iload hx hb dX3_commit_148 (lv_at hl 5 rfl) ?_
                      refine lv_iload hx hb dX3_commit_150 (lv_at hl 0 rfl) ?_
                      refine lv_if_eq (tgt := 160) hx hb dX3_commit_152 (by decide) (fun c_152 => ?_) (fun c_152 => ?_)
                      · exact absurd c_152 (by decide)
                      · refine lv_iload hx hb dX3_commit_155 (lv_at hl 4 rfl) ?_
                        refine lv_goto (tgt := 167) hx hb dX3_commit_157 (by decide) ?_
                        refine nv_iast hx hb hK.1 hW (wl_D hK.2.1) hS 3 0 mw_3 rfl (i := n) (by omega) (by decide) dX3_commit_167 (fun H locs hW hS => ?_)
                        have hW : mW G (s1 Q 3 n (nI rc)) H := mp_3 hW
                        obtain ⟨S_20, eS_20⟩ : ∃ z, z = s1 Q 3 n (nI rc) := ⟨_, rfl⟩
                        rw [← eS_20] at hW
                        refine lv_iconst (v := nI 0) hx hb dX3_commit_168 (by decide) ?_
                        refine lv_istore (lv' := [(7, .int (nI 0)), (6, .int (nI 1)), (0, .ref (gA G 0)), (1, .int (nI i_3)), (3, .int (nI b1)), (4, .int (nI rc)), (5, .int (nI n))]) hx hb dX3_commit_169 hl (by decide) rfl (fun ls hl => ?_)
                        have LQ : ∀ (k2 : Nat) (w : Nat) (Q2 : SS) (H : Heap) (locs : List Loc), (mW G Q2 H) → (va_S (gF G s.heap.size) s.heap H locs) → (w + k2 = 3) → ∀ (ls : Array Slot), lv_has ls 8 [(0, .ref (gA G 0)), (1, .int (nI i_3)), (3, .int (nI b1)), (4, .int (nI rc)), (5, .int (nI n)), (6, .int (nI 1)), (7, .int (nI w))] → W p l e (headSpec wsX3_commit ({ frames := 3, cells := 0, slots := 0, locals := 68 } : Room)).room s m ([.ref (gA G 0), .int (nI i_3)] : List Value).toArray below meth c H locs 0 0 (MQ below (va_Qi (fun r S' => ((mcCommit (mT S) rc (nI i_3)) = 0 → r = nI rc) ∧ S' = mkF i_3 rc (mkN rc b1 k (n + 1) (mkW rc b1 n true k2 w Q2))) (mB G) (gF G s.heap.size)) ([.ref (gA G 0), .int (nI i_3)] : List Value).toArray s 0 0 (gF G s.heap.size)) (F0 m 171 ls []) := by
                          intro k2
                          induction k2 with
                          | zero =>
                            intro w Q2 H locs hW hS h3 ls hl
                            refine lv_iload hx hb dX3_commit_171 (lv_at hl 6 rfl) ?_
                            refine lv_iconst (v := nI 3) hx hb dX3_commit_173 (by decide) ?_
                            refine nv_icmp_ge (tgt := 244) hx hb (by omega) (by omega) dX3_commit_174 (by decide) (fun c_174 => ?_) (fun c_174 => ?_)
                            · refine lv_iinc (v := nI (n + 1)) (lv' := [(5, .int (nI (n + 1))), (0, .ref (gA G 0)), (1, .int (nI i_3)), (3, .int (nI b1)), (4, .int (nI rc)), (6, .int (nI 1)), (7, .int (nI w))]) hx hb dX3_commit_244 hl (k := 4) rfl (nI_add n 1) (by decide) rfl (fun ls hl => ?_)
                              refine lv_goto (tgt := 109) hx hb dX3_commit_247 (by decide) ?_
                              exact ih (n + 1) Q2 H locs hW hS (by omega) (by omega) ls (lv_sub hl [1, 2, 3, 4, 0] rfl)
                            · exact absurd c_174 (by omega)
                          | succ k2 ih2 =>
                            intro w Q2 H locs hW hS h3 ls hl
                            refine lv_iload hx hb dX3_commit_171 (lv_at hl 6 rfl) ?_
                            refine lv_iconst (v := nI 3) hx hb dX3_commit_173 (by decide) ?_
                            refine nv_icmp_ge (tgt := 244) hx hb (by omega) (by omega) dX3_commit_174 (by decide) (fun c_174 => ?_) (fun c_174 => ?_)
                            · exact absurd c_174 (by omega)
                            · refine lv_aload_n hx hb dX3_commit_177 rfl (lv_at hl 0 rfl) ?_
                              refine va_get (D := gD G) (ci := 3) (v := .ref (gA G 9)) (C := RX3) (T := TX3) (N := 22) hx hb hts inX3 hown hK.1 hW 0 mw_0 rfl 11 (by decide) (hts (.fieldLink RX3 43 "MarkedTreesModel" "marks" "[J") (by decide +kernel)) (fun _ h9 => h9) rfl dX3_commit_178 ?_
                              refine lv_bipush (v := nI 48) hx hb dX3_commit_181 (by decide) ?_
                              refine lv_iload hx hb dX3_commit_183 (lv_at hl 3 rfl) ?_
                              refine nv_imul hx hb dX3_commit_185 ?_
                              refine lv_iconst (v := nI 3) hx hb dX3_commit_186 (by decide) ?_
                              refine lv_iload hx hb dX3_commit_187 (lv_at hl 4 rfl) ?_
                              refine nv_imul hx hb dX3_commit_189 ?_
                              refine nv_iadd hx hb dX3_commit_190 ?_
                              refine lv_iload hx hb dX3_commit_191 (lv_at hl 6 rfl) ?_
                              refine nv_iadd hx hb dX3_commit_193 ?_
                              refine lv_iload hx hb dX3_commit_194 (lv_at hl 5 rfl) ?_
                              refine lv_if_ne (tgt := 213) hx hb dX3_commit_196 (by decide) (fun c_196 => ?_) (fun c_196 => ?_)
                              · refine lv_lconst (v := 1) hx hb dX3_commit_213 (by decide) ?_
                                refine lv_iload hx hb dX3_commit_214 (lv_at hl 3 rfl) ?_
                                refine lv_lshl (v := 1 <<< ((nI rc).toInt64 &&& 63)) hx hb dX3_commit_216 rfl ?_
                                refine lv_goto (tgt := 237) hx hb dX3_commit_217 (by decide) ?_
                                refine nv_last hx hb hK.1 hW (wl_D hK.2.1) hS 9 1 mw_9 rfl (i := ((48 * rc) + (3 * n)) + w) (by omega) (by decide) dX3_commit_237 (fun H locs hW hS => ?_)
                                have hW : mW G (s2 Q2 9 (((48 * rc) + (3 * n)) + w) (1 <<< ((nI rc).toInt64 &&& 63))) H := mp_9 hW
                                obtain ⟨S_21, eS_21⟩ : ∃ z, z = s2 Q2 9 (((48 * rc) + (3 * n)) + w) (1 <<< ((nI rc).toInt64 &&& 63)) := ⟨_, rfl⟩
                                rw [← eS_21] at hW
                                refine lv_iinc (v := nI (w + 1)) (lv' := [(7, .int (nI (w + 1))), (0, .ref (gA G 0)), (1, .int (nI i_3)), (3, .int (nI b1)), (4, .int (nI rc)), (5, .int (nI n)), (6, .int (nI 1))]) hx hb dX3_commit_238 hl (k := 6) rfl (nI_add w 1) (by decide) rfl (fun ls hl => ?_)
                                refine lv_goto (tgt := 171) hx hb dX3_commit_241 (by decide) ?_
                                have E : mkW rc b1 n true (k2 + 1) w Q2 = mkW rc b1 n true k2 (w + 1) S_21 := by rw [mkW, if_pos (Or.inl rfl), eS_21]; try rfl
                                rw [E]
                                exact ih2 (w + 1) S_21 H locs hW hS (by omega) ls (lv_sub hl [1, 2, 3, 4, 5, 6, 0] rfl)
                              · exact absurd c_196 (by decide)
                        have E : mkN rc b1 (k + 1) n Q = mkN rc b1 k (n + 1) (mkW rc b1 n true 3 0 S_20) := by rw [mkN, mkI, if_pos c_124, if_neg (ne_true_of_eq_false c_134), eS_20]
                        rw [E]
                        exact LQ 3 0 S_20 H locs hW hS (by omega) ls (lv_sub hl [2, 3, 4, 5, 6, 1, 0] rfl)
            have E0 : mk0 (mT S) rc i_3 b1 = S_11 := by subst_vars; rfl
            have E : mF (mT S) (mcCommit (mT S) rc (nI i_3)) (mdCommit (mT S) rc (cn (nI i_3)) (cn ((mT S).1 11 (cn (nI i_3))))) = mkF i_3 rc (mkN rc b1 15 1 S_11) := by rw [mF_ok (by unfold mcCommit; (try simp only [cn_i_3, cb1]); rw [if_pos (isP_nI hi_3), if_neg c_31, if_neg (ne_true_of_eq_false c48), if_neg c_57]), ← E0, mdCommit]; simp only [cn_i_3, cb1]
            rw [E]
            exact LP 15 1 S_11 H locs hW hS (by omega) (by omega) ls (lv_sub hl [4, 5, 2, 1, 0] rfl)
          · refine lv_aload_n hx hb dX3_commit_60 rfl (lv_at hl 2 rfl) ?_
            refine lv_iconst (v := nI 2) hx hb dX3_commit_61 (by decide) ?_
            refine ev_i (va_runV (As := [.int (nI 2)]) (rest := []) ⟨hx, hb, hml, hown, hts⟩ (k_X3_fail l G (mT S) H.size (nI 2)) (cwV 1 hts gX3_commit_X3_fail rfl rfl rfl (by decide +kernel) ⟨Nat.le_of_ble_eq_true rfl, Nat.le_of_ble_eq_true rfl⟩) ⟨mQ_blind, m_recv hW hK, mQ_at hW hK hS⟩ rfl rfl hl.1 rfl (lv_room (Nat.le_of_ble_eq_true rfl)) dX3_commit_62 ⟨Nat.le_of_ble_eq_true rfl, Nat.le_of_ble_eq_true rfl⟩) hS (fun r_23 S_22 t9 H locs ht9 hS_22 hW hS => ?_)
            have hW : mW G S_22 H := ht9 ▸ hW
            obtain ⟨rfl, eS_22⟩ := hS_22
            exact W.iret (v := nI 0) hx hb hr (fun t9 ht9 _ => ⟨⟨_, S_22, rfl, ⟨no0 (k := 2) (by unfold mcCommit; (try simp only [cn_i_3, cb1]); rw [if_pos (isP_nI hi_3), if_neg c_31, if_neg (ne_true_of_eq_false c48), if_pos c_57]) (by decide), (by rw [mF_no (by unfold mcCommit; (try simp only [cn_i_3, cb1]); rw [if_pos (isP_nI hi_3), if_neg c_31, if_neg (ne_true_of_eq_false c48), if_pos c_57]) (by decide)]; exact eS_22)⟩, (show mW G S_22 t9.heap by rw [ht9]; exact hW)⟩, hS.F ht9⟩) hS.2.2 dX3_commit_65
      · exact absurd (nI_pos' (by omega)) c_37
  · refine lv_aload_n hx hb dX3_commit_12 rfl (lv_at hl 0 rfl) ?_
    refine lv_iconst (v := nI 1) hx hb dX3_commit_13 (by decide) ?_
    refine ev_i (va_runV (As := [.int (nI 1)]) (rest := []) ⟨hx, hb, hml, hown, hts⟩ (k_X3_fail l G (mT S) H.size (nI 1)) (cwV 1 hts gX3_commit_X3_fail rfl rfl rfl (by decide +kernel) ⟨Nat.le_of_ble_eq_true rfl, Nat.le_of_ble_eq_true rfl⟩) ⟨mQ_blind, m_recv hW hK, mQ_at hW hK hS⟩ rfl rfl hl.1 rfl (lv_room (Nat.le_of_ble_eq_true rfl)) dX3_commit_14 ⟨Nat.le_of_ble_eq_true rfl, Nat.le_of_ble_eq_true rfl⟩) hS (fun r_25 S_24 t9 H locs ht9 hS_24 hW hS => ?_)
    have hW : mW G S_24 H := ht9 ▸ hW
    obtain ⟨rfl, eS_24⟩ := hS_24
    exact W.iret (v := nI 0) hx hb hr (fun t9 ht9 _ => ⟨⟨_, S_24, rfl, ⟨no0 (k := 1) (by unfold mcCommit; rw [if_neg (ne_true_of_eq_false c_9)]) (by decide), (by rw [mF_no (by unfold mcCommit; rw [if_neg (ne_true_of_eq_false c_9)]) (by decide)]; exact eS_24)⟩, (show mW G S_24 t9.heap by rw [ht9]; exact hW)⟩, hS.F ht9⟩) hS.2.2 dX3_commit_17
