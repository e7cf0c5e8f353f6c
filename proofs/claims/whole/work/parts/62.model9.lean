set_option maxHeartbeats 4000000 in
set_option maxRecDepth 100000 in
theorem k_X3_exchange (l : Launch) (G : GT) (S : SS) (sz : Nat) (x : Int32) : Met l yX3_exchange wsX3_exchange ({ frames := 1, cells := 0, slots := 0, locals := 25 } : Room) (va_Pc [.ref (gA G 0), .int x] (fun U => U.heap.size = sz ∧ mP G S U)) (va_Qi (fun r S' => ((mcExch x) = 0 → r = (mdExch (mT S) (cn x)).1) ∧ S' = mF (mT S) (mcExch x) ((mdExch (mT S) (cn x)).2)) (mB G) (gF G sz)) 0 0 (gF G sz) := by
  refine Met.ofW (cc := cX3_exchange) (maxL := 12) (ret := (some .int)) (by decide) rfl ?_
  intro p e s m args below meth c s₁ B hml hv
  obtain ⟨rfl, hsz, hW, hK⟩ := hv
  subst hsz
  have hx := B.exec
  have hb := B.bytes
  have hr := B.returns
  have hts := atoms_spec (ws := wsX3_exchange) B.pre
  have hown : s.vm.findClass RX3 = some m.cls := findClass_of_methodNamed B.named
  have hlocks := B.notSynchronized
  have hS : va_S (gF G s.heap.size) s.heap s.heap [] := va_S.rf
  have inX3 : ∀ w ∈ u_ws RX3 TX3 22, w ∈ wsX3_exchange := by decide +kernel
  have hl := lv_entry ([.ref (gA G 0), .int x]) (n := 12) (Nat.le_of_ble_eq_true rfl)
  rw [lg_entry_eq]
  generalize (lg_sl ([.ref (gA G 0), .int x]) ++ List.replicate (12 - (lg_sl ([.ref (gA G 0), .int x])).length) Slot.unset).toArray = ls at hl ⊢
  have hl : lv_has ls 12 [(0, .ref (gA G 0)), (1, .int x)] := hl
  refine lv_aload_n hx hb dX3_exchange_0 rfl (lv_at hl 0 rfl) ?_
  refine lv_iconst (v := nI 0) hx hb dX3_exchange_1 (by decide) ?_
  refine va_put (D := gD G) (ci := 3) (v := .int (nI 0)) (ty := .int) (C := RX3) (T := TX3) (N := 22) hx hb hts inX3 tyX3 tyX3_ok nmX3 hown hK.1 hW (wl_D hK.2.1) hS 0 mw_0 rfl 0 (by decide) (hts (.fieldLink RX3 76 "MarkedTreesModel" "thrown" "I") (by decide +kernel)) (fun _ h9 => h9) rfl (by decide +kernel) rfl rfl (Nat.le_of_ble_eq_true rfl) dX3_exchange_2 (fun H locs hW _ hS => ?_)
  have hW : mW G (s1 S 0 0 (nI 0)) H := mp_0_0 hW
  obtain ⟨S_1, eS_1⟩ : ∃ z, z = s1 S 0 0 (nI 0) := ⟨_, rfl⟩
  rw [← eS_1] at hW
  have hT : S_1 = mT S := eS_1
  subst hT
  refine lv_iload_n hx hb dX3_exchange_5 rfl (lv_at hl 1 rfl) ?_
  refine lv_iconst (v := nI 0) hx hb dX3_exchange_6 (by decide) ?_
  refine lv_iconst (v := nI 2) hx hb dX3_exchange_7 (by decide) ?_
  refine pv_i (va_runS (As := [.int x, .int (nI 0), .int (nI 2)]) (rest := []) ⟨hx, hb, hml, hown, hts⟩ (k_X3_in l x (nI 0) (nI 2)) (va_cwS 3 hts gX3_exchange_X3_in rfl rfl rfl (by decide +kernel) ⟨Nat.le_of_ble_eq_true rfl, Nat.le_of_ble_eq_true rfl⟩) ⟨(fun _ _ _ _ h => h), fun U _ _ => ⟨rfl, trivial⟩⟩ rfl rfl hl.1 rfl (lv_room (Nat.le_of_ble_eq_true rfl)) dX3_exchange_8 ⟨Nat.le_of_ble_eq_true rfl, Nat.le_of_ble_eq_true rfl⟩) (fun r_2 hr_2 => ?_)
  have hr_2 : r_2 = bI (inM x (nI 0) (nI 2)) := hr_2
  subst hr_2
  refine bv_if_ne (b := inM x (nI 0) (nI 2)) (tgt := 20) hx hb dX3_exchange_11 (by decide) (fun c_11 => ?_) (fun c_11 => ?_)
  · have d_11 : inB x 3 = true := (inM_B x (n := 2) (by decide)).symm.trans c_11
    obtain ⟨n_3, hn_3, rfl⟩ := (inB_iff (by omega)).mp d_11
    have cn_n_3 : cn (nI n_3) = n_3 := cn_nI (by omega)
    refine lv_aload_n hx hb dX3_exchange_20 rfl (lv_at hl 0 rfl) ?_
    refine lv_aload_n hx hb dX3_exchange_21 rfl (lv_at hl 0 rfl) ?_
    refine lv_iconst (v := nI 0) hx hb dX3_exchange_22 (by decide) ?_
    refine lv_iload_n hx hb dX3_exchange_23 rfl (lv_at hl 1 rfl) ?_
    refine pv_l (va_runV (As := [.int (nI 0), .int (nI n_3)]) (rest := [.ref (gA G 0)]) ⟨hx, hb, hml, hown, hts⟩ (k_X3_members l G (mT S) (i := 0) (by omega) (b := n_3) (by omega)) (cwV 2 hts gX3_exchange_X3_members rfl rfl rfl (by decide +kernel) ⟨Nat.le_of_ble_eq_true rfl, Nat.le_of_ble_eq_true rfl⟩) ⟨mP_blind, m_recv hW hK, mP_at hW hK hS⟩ rfl rfl hl.1 rfl (lv_room (Nat.le_of_ble_eq_true rfl)) dX3_exchange_24 ⟨Nat.le_of_ble_eq_true rfl, Nat.le_of_ble_eq_true rfl⟩) (fun r_4 hr_4 => ?_)
    have hr_4 : r_4 = mmG (mT S) 0 n_3 4 0 0 := hr_4
    subst hr_4
    refine pv_l (va_runV (As := [.long (mmG (mT S) 0 n_3 4 0 0)]) (rest := []) ⟨hx, hb, hml, hown, hts⟩ (k_X3_closed l G (mT S) (mmG (mT S) 0 n_3 4 0 0)) (cwV 1 hts gX3_exchange_X3_closed rfl rfl rfl (by decide +kernel) ⟨Nat.le_of_ble_eq_true rfl, Nat.le_of_ble_eq_true rfl⟩) ⟨mP_blind, m_recv hW hK, mP_at hW hK hS⟩ rfl rfl hl.1 rfl (lv_room (Nat.le_of_ble_eq_true rfl)) dX3_exchange_27 ⟨Nat.le_of_ble_eq_true rfl, Nat.le_of_ble_eq_true rfl⟩) (fun r_5 hr_5 => ?_)
    have hr_5 : r_5 = mclG (mT S) (mmG (mT S) 0 n_3 4 0 0) 40 0 (mmG (mT S) 0 n_3 4 0 0) := hr_5
    subst hr_5
    refine lv_lstore_n (lv' := [(2, .long (mclG (mT S) (mmG (mT S) 0 n_3 4 0 0) 40 0 (mmG (mT S) 0 n_3 4 0 0))), (0, .ref (gA G 0)), (1, .int (nI n_3))]) hx hb dX3_exchange_30 rfl hl (by decide) rfl (fun ls hl => ?_)
    refine lv_aload_n hx hb dX3_exchange_31 rfl (lv_at hl 1 rfl) ?_
    refine lv_aload_n hx hb dX3_exchange_32 rfl (lv_at hl 1 rfl) ?_
    refine lv_iconst (v := nI 1) hx hb dX3_exchange_33 (by decide) ?_
    refine lv_iload_n hx hb dX3_exchange_34 rfl (lv_at hl 2 rfl) ?_
    refine pv_l (va_runV (As := [.int (nI 1), .int (nI n_3)]) (rest := [.ref (gA G 0)]) ⟨hx, hb, hml, hown, hts⟩ (k_X3_members l G (mT S) (i := 1) (by omega) (b := n_3) (by omega)) (cwV 2 hts gX3_exchange_X3_members rfl rfl rfl (by decide +kernel) ⟨Nat.le_of_ble_eq_true rfl, Nat.le_of_ble_eq_true rfl⟩) ⟨mP_blind, m_recv hW hK, mP_at hW hK hS⟩ rfl rfl hl.1 rfl (lv_room (Nat.le_of_ble_eq_true rfl)) dX3_exchange_35 ⟨Nat.le_of_ble_eq_true rfl, Nat.le_of_ble_eq_true rfl⟩) (fun r_6 hr_6 => ?_)
    have hr_6 : r_6 = mmG (mT S) 1 n_3 4 0 0 := hr_6
    subst hr_6
    refine pv_l (va_runV (As := [.long (mmG (mT S) 1 n_3 4 0 0)]) (rest := []) ⟨hx, hb, hml, hown, hts⟩ (k_X3_closed l G (mT S) (mmG (mT S) 1 n_3 4 0 0)) (cwV 1 hts gX3_exchange_X3_closed rfl rfl rfl (by decide +kernel) ⟨Nat.le_of_ble_eq_true rfl, Nat.le_of_ble_eq_true rfl⟩) ⟨mP_blind, m_recv hW hK, mP_at hW hK hS⟩ rfl rfl hl.1 rfl (lv_room (Nat.le_of_ble_eq_true rfl)) dX3_exchange_38 ⟨Nat.le_of_ble_eq_true rfl, Nat.le_of_ble_eq_true rfl⟩) (fun r_7 hr_7 => ?_)
    have hr_7 : r_7 = mclG (mT S) (mmG (mT S) 1 n_3 4 0 0) 40 0 (mmG (mT S) 1 n_3 4 0 0) := hr_7
    subst hr_7
    refine lv_lstore (lv' := [(4, .long (mclG (mT S) (mmG (mT S) 1 n_3 4 0 0) 40 0 (mmG (mT S) 1 n_3 4 0 0))), (2, .long (mclG (mT S) (mmG (mT S) 0 n_3 4 0 0) 40 0 (mmG (mT S) 0 n_3 4 0 0))), (0, .ref (gA G 0)), (1, .int (nI n_3))]) hx hb dX3_exchange_41 hl (by decide) rfl (fun ls hl => ?_)
    refine lv_lload_n hx hb dX3_exchange_43 rfl (lv_at hl 1 rfl) ?_
    refine lv_aload_n hx hb dX3_exchange_44 rfl (lv_at hl 2 rfl) ?_
    refine va_get (D := gD G) (ci := 3) (v := .ref (gA G 10)) (C := RX3) (T := TX3) (N := 22) hx hb hts inX3 hown hK.1 hW 0 mw_0 rfl 12 (by decide) (hts (.fieldLink RX3 46 "MarkedTreesModel" "have" "[J") (by decide +kernel)) (fun _ h9 => h9) rfl dX3_exchange_45 ?_
    refine lv_iconst (v := nI 1) hx hb dX3_exchange_48 (by decide) ?_
    refine nv_lald hx hb hK.1 hW 10 1 mw_10 rfl (i := 1) (by omega) (by decide) dX3_exchange_49 ?_
    refine lv_ldc2 (v := (-1)) hx hb hown (hts (.constantLong RX3 120 (-1)) (by decide +kernel)) dX3_exchange_50 ?_
    refine lv_lxor hx hb dX3_exchange_53 ?_
    refine lv_land hx hb dX3_exchange_54 ?_
    refine pv_i (va_runS (As := [.long ((mclG (mT S) (mmG (mT S) 0 n_3 4 0 0) 40 0 (mmG (mT S) 0 n_3 4 0 0)) &&& (((mT S).2 10 1) ^^^ (-1)))]) (rest := []) ⟨hx, hb, hml, hown, hts⟩ (k_X3_bits l ((mclG (mT S) (mmG (mT S) 0 n_3 4 0 0) 40 0 (mmG (mT S) 0 n_3 4 0 0)) &&& (((mT S).2 10 1) ^^^ (-1)))) (va_cwS 1 hts gX3_exchange_X3_bits rfl rfl rfl (by decide +kernel) ⟨Nat.le_of_ble_eq_true rfl, Nat.le_of_ble_eq_true rfl⟩) ⟨(fun _ _ _ _ h => h), fun U _ _ => ⟨rfl, trivial⟩⟩ rfl rfl hl.1 rfl (lv_room (Nat.le_of_ble_eq_true rfl)) dX3_exchange_55 ⟨Nat.le_of_ble_eq_true rfl, Nat.le_of_ble_eq_true rfl⟩) (fun r_8 hr_8 => ?_)
    have hr_8 : r_8 = mbG ((mclG (mT S) (mmG (mT S) 0 n_3 4 0 0) 40 0 (mmG (mT S) 0 n_3 4 0 0)) &&& (((mT S).2 10 1) ^^^ (-1))) 64 0 (nI 0) := hr_8
    subst hr_8
    refine lv_lload hx hb dX3_exchange_58 (lv_at hl 0 rfl) ?_
    refine lv_aload_n hx hb dX3_exchange_60 rfl (lv_at hl 2 rfl) ?_
    refine va_get (D := gD G) (ci := 3) (v := .ref (gA G 10)) (C := RX3) (T := TX3) (N := 22) hx hb hts inX3 hown hK.1 hW 0 mw_0 rfl 12 (by decide) (hts (.fieldLink RX3 46 "MarkedTreesModel" "have" "[J") (by decide +kernel)) (fun _ h9 => h9) rfl dX3_exchange_61 ?_
    refine lv_iconst (v := nI 0) hx hb dX3_exchange_64 (by decide) ?_
    refine nv_lald hx hb hK.1 hW 10 1 mw_10 rfl (i := 0) (by omega) (by decide) dX3_exchange_65 ?_
    refine lv_ldc2 (v := (-1)) hx hb hown (hts (.constantLong RX3 120 (-1)) (by decide +kernel)) dX3_exchange_66 ?_
    refine lv_lxor hx hb dX3_exchange_69 ?_
    refine lv_land hx hb dX3_exchange_70 ?_
    refine pv_i (va_runS (As := [.long ((mclG (mT S) (mmG (mT S) 1 n_3 4 0 0) 40 0 (mmG (mT S) 1 n_3 4 0 0)) &&& (((mT S).2 10 0) ^^^ (-1)))]) (rest := [.int (mbG ((mclG (mT S) (mmG (mT S) 0 n_3 4 0 0) 40 0 (mmG (mT S) 0 n_3 4 0 0)) &&& (((mT S).2 10 1) ^^^ (-1))) 64 0 (nI 0))]) ⟨hx, hb, hml, hown, hts⟩ (k_X3_bits l ((mclG (mT S) (mmG (mT S) 1 n_3 4 0 0) 40 0 (mmG (mT S) 1 n_3 4 0 0)) &&& (((mT S).2 10 0) ^^^ (-1)))) (va_cwS 1 hts gX3_exchange_X3_bits rfl rfl rfl (by decide +kernel) ⟨Nat.le_of_ble_eq_true rfl, Nat.le_of_ble_eq_true rfl⟩) ⟨(fun _ _ _ _ h => h), fun U _ _ => ⟨rfl, trivial⟩⟩ rfl rfl hl.1 rfl (lv_room (Nat.le_of_ble_eq_true rfl)) dX3_exchange_71 ⟨Nat.le_of_ble_eq_true rfl, Nat.le_of_ble_eq_true rfl⟩) (fun r_9 hr_9 => ?_)
    have hr_9 : r_9 = mbG ((mclG (mT S) (mmG (mT S) 1 n_3 4 0 0) 40 0 (mmG (mT S) 1 n_3 4 0 0)) &&& (((mT S).2 10 0) ^^^ (-1))) 64 0 (nI 0) := hr_9
    subst hr_9
    refine lv_iadd hx hb dX3_exchange_74 ?_
    refine lv_istore (lv' := [(6, .int ((mbG ((mclG (mT S) (mmG (mT S) 0 n_3 4 0 0) 40 0 (mmG (mT S) 0 n_3 4 0 0)) &&& (((mT S).2 10 1) ^^^ (-1))) 64 0 (nI 0)) + (mbG ((mclG (mT S) (mmG (mT S) 1 n_3 4 0 0) 40 0 (mmG (mT S) 1 n_3 4 0 0)) &&& (((mT S).2 10 0) ^^^ (-1))) 64 0 (nI 0)))), (4, .long (mclG (mT S) (mmG (mT S) 1 n_3 4 0 0) 40 0 (mmG (mT S) 1 n_3 4 0 0))), (2, .long (mclG (mT S) (mmG (mT S) 0 n_3 4 0 0) 40 0 (mmG (mT S) 0 n_3 4 0 0))), (0, .ref (gA G 0)), (1, .int (nI n_3))]) hx hb dX3_exchange_75 hl (by decide) rfl (fun ls hl => ?_)
    refine lv_aload_n hx hb dX3_exchange_77 rfl (lv_at hl 3 rfl) ?_
    refine va_get (D := gD G) (ci := 3) (v := .ref (gA G 10)) (C := RX3) (T := TX3) (N := 22) hx hb hts inX3 hown hK.1 hW 0 mw_0 rfl 12 (by decide) (hts (.fieldLink RX3 46 "MarkedTreesModel" "have" "[J") (by decide +kernel)) (fun _ h9 => h9) rfl dX3_exchange_78 ?_
    refine lv_iconst (v := nI 1) hx hb dX3_exchange_81 (by decide) ?_
    refine lv_dup2_11 hx hb dX3_exchange_82 rfl rfl ?_
    refine nv_lald hx hb hK.1 hW 10 1 mw_10 rfl (i := 1) (by omega) (by decide) dX3_exchange_83 ?_
    refine lv_lload_n hx hb dX3_exchange_84 rfl (lv_at hl 2 rfl) ?_
    refine lv_lor hx hb dX3_exchange_85 ?_
    refine nv_last hx hb hK.1 hW (wl_D hK.2.1) hS 10 1 mw_10 rfl (i := 1) (by omega) (by decide) dX3_exchange_86 (fun H locs hW hS => ?_)
    have hW : mW G (s2 (mT S) 10 1 (((mT S).2 10 1) ||| (mclG (mT S) (mmG (mT S) 0 n_3 4 0 0) 40 0 (mmG (mT S) 0 n_3 4 0 0)))) H := mp_10 hW
    obtain ⟨S_10, eS_10⟩ : ∃ z, z = s2 (mT S) 10 1 (((mT S).2 10 1) ||| (mclG (mT S) (mmG (mT S) 0 n_3 4 0 0) 40 0 (mmG (mT S) 0 n_3 4 0 0))) := ⟨_, rfl⟩
    rw [← eS_10] at hW
    refine lv_aload_n hx hb dX3_exchange_87 rfl (lv_at hl 3 rfl) ?_
    refine va_get (D := gD G) (ci := 3) (v := .ref (gA G 10)) (C := RX3) (T := TX3) (N := 22) hx hb hts inX3 hown hK.1 hW 0 mw_0 rfl 12 (by decide) (hts (.fieldLink RX3 46 "MarkedTreesModel" "have" "[J") (by decide +kernel)) (fun _ h9 => h9) rfl dX3_exchange_88 ?_
    refine lv_iconst (v := nI 0) hx hb dX3_exchange_91 (by decide) ?_
    refine lv_dup2_11 hx hb dX3_exchange_92 rfl rfl ?_
    refine nv_lald hx hb hK.1 hW 10 1 mw_10 rfl (i := 0) (by omega) (by decide) dX3_exchange_93 ?_
    refine lv_lload hx hb dX3_exchange_94 (lv_at hl 1 rfl) ?_
    refine lv_lor hx hb dX3_exchange_96 ?_
    refine nv_last hx hb hK.1 hW (wl_D hK.2.1) hS 10 1 mw_10 rfl (i := 0) (by omega) (by decide) dX3_exchange_97 (fun H locs hW hS => ?_)
    have hW : mW G (s2 S_10 10 0 ((S_10.2 10 0) ||| (mclG (mT S) (mmG (mT S) 1 n_3 4 0 0) 40 0 (mmG (mT S) 1 n_3 4 0 0)))) H := mp_10 hW
    obtain ⟨S_11, eS_11⟩ : ∃ z, z = s2 S_10 10 0 ((S_10.2 10 0) ||| (mclG (mT S) (mmG (mT S) 1 n_3 4 0 0) 40 0 (mmG (mT S) 1 n_3 4 0 0))) := ⟨_, rfl⟩
    rw [← eS_11] at hW
    refine lv_iconst (v := nI 0) hx hb dX3_exchange_98 (by decide) ?_
    refine lv_istore (lv' := [(7, .int (nI 0)), (6, .int ((mbG ((mclG (mT S) (mmG (mT S) 0 n_3 4 0 0) 40 0 (mmG (mT S) 0 n_3 4 0 0)) &&& (((mT S).2 10 1) ^^^ (-1))) 64 0 (nI 0)) + (mbG ((mclG (mT S) (mmG (mT S) 1 n_3 4 0 0) 40 0 (mmG (mT S) 1 n_3 4 0 0)) &&& (((mT S).2 10 0) ^^^ (-1))) 64 0 (nI 0)))), (4, .long (mclG (mT S) (mmG (mT S) 1 n_3 4 0 0) 40 0 (mmG (mT S) 1 n_3 4 0 0))), (2, .long (mclG (mT S) (mmG (mT S) 0 n_3 4 0 0) 40 0 (mmG (mT S) 0 n_3 4 0 0))), (0, .ref (gA G 0)), (1, .int (nI n_3))]) hx hb dX3_exchange_99 hl (by decide) rfl (fun ls hl => ?_)
    obtain ⟨f9, ef9⟩ : ∃ z, z = msnd (mT S) 0 n_3 := ⟨_, rfl⟩
    obtain ⟨g9, eg9⟩ : ∃ z, z = msnd (mT S) 1 n_3 := ⟨_, rfl⟩
    have LP : ∀ (n : Nat) (k : Nat) (a : Int32) (Q : SS) (H : Heap) (locs : List Loc), (mW G Q H) → (va_S (gF G s.heap.size) s.heap H locs) → (k + n = 12) → ∀ (ls : Array Slot), lv_has ls 12 [(0, .ref (gA G 0)), (2, .long f9), (4, .long g9), (6, .int a), (7, .int (nI k))] → W p l e (headSpec wsX3_exchange ({ frames := 1, cells := 0, slots := 0, locals := 25 } : Room)).room s m ([.ref (gA G 0), .int (nI n_3)] : List Value).toArray below meth c H locs 0 0 (MQ below (va_Qi (fun r S' => ((mcExch (nI n_3)) = 0 → r = (mxG f9 g9 n k a Q).1) ∧ S' = (mxG f9 g9 n k a Q).2) (mB G) (gF G s.heap.size)) ([.ref (gA G 0), .int (nI n_3)] : List Value).toArray s 0 0 (gF G s.heap.size)) (F0 m 101 ls []) := by
      intro n
      induction n with
      | zero =>
        intro k a Q H locs hW hS h2 ls hl
        refine lv_iload hx hb dX3_exchange_101 (lv_at hl 4 rfl) ?_
        refine lv_bipush (v := nI 12) hx hb dX3_exchange_103 (by decide) ?_
        refine nv_icmp_ge (tgt := 210) hx hb (by omega) (by omega) dX3_exchange_105 (by decide) (fun c_105 => ?_) (fun c_105 => ?_)
        · refine lv_iload hx hb dX3_exchange_210 (lv_at hl 3 rfl) ?_
          exact W.iret (v := a) hx hb hr (fun t9 ht9 _ => ⟨⟨_, Q, rfl, ⟨fun _ => rfl, rfl⟩, (show mW G Q t9.heap by rw [ht9]; exact hW)⟩, hS.F ht9⟩) hS.2.2 dX3_exchange_212
        · exact absurd c_105 (by omega)
      | succ n ih =>
        intro k a Q H locs hW hS h2 ls hl
        refine lv_iload hx hb dX3_exchange_101 (lv_at hl 4 rfl) ?_
        refine lv_bipush (v := nI 12) hx hb dX3_exchange_103 (by decide) ?_
        refine nv_icmp_ge (tgt := 210) hx hb (by omega) (by omega) dX3_exchange_105 (by decide) (fun c_105 => ?_) (fun c_105 => ?_)
        · exact absurd c_105 (by omega)
        · refine lv_aload_n hx hb dX3_exchange_108 rfl (lv_at hl 0 rfl) ?_
          refine va_get (D := gD G) (ci := 3) (v := .ref (gA G 14)) (C := RX3) (T := TX3) (N := 22) hx hb hts inX3 hown hK.1 hW 0 mw_0 rfl 16 (by decide) (hts (.fieldLink RX3 58 "MarkedTreesModel" "certificates" "[J") (by decide +kernel)) (fun _ h9 => h9) rfl dX3_exchange_109 ?_
          refine lv_iload hx hb dX3_exchange_112 (lv_at hl 4 rfl) ?_
          refine nv_lald hx hb hK.1 hW 14 1 mw_14 rfl (i := k) (by omega) (by decide) dX3_exchange_114 ?_
          refine lv_lload_n hx hb dX3_exchange_115 rfl (lv_at hl 1 rfl) ?_
          refine lv_land hx hb dX3_exchange_116 ?_
          refine lv_lstore (lv' := [(8, .long ((Q.2 14 k) &&& f9)), (0, .ref (gA G 0)), (2, .long f9), (4, .long g9), (6, .int a), (7, .int (nI k))]) hx hb dX3_exchange_117 hl (by decide) rfl (fun ls hl => ?_)
          refine lv_aload_n hx hb dX3_exchange_119 rfl (lv_at hl 1 rfl) ?_
          refine va_get (D := gD G) (ci := 3) (v := .ref (gA G 14)) (C := RX3) (T := TX3) (N := 22) hx hb hts inX3 hown hK.1 hW 0 mw_0 rfl 16 (by decide) (hts (.fieldLink RX3 58 "MarkedTreesModel" "certificates" "[J") (by decide +kernel)) (fun _ h9 => h9) rfl dX3_exchange_120 ?_
          refine lv_bipush (v := nI 12) hx hb dX3_exchange_123 (by decide) ?_
          refine lv_iload hx hb dX3_exchange_125 (lv_at hl 5 rfl) ?_
          refine nv_iadd hx hb dX3_exchange_127 ?_
          refine nv_lald hx hb hK.1 hW 14 1 mw_14 rfl (i := 12 + k) (by omega) (by decide) dX3_exchange_128 ?_
          refine lv_lload hx hb dX3_exchange_129 (lv_at hl 3 rfl) ?_
          refine lv_land hx hb dX3_exchange_131 ?_
          refine lv_lstore (lv' := [(10, .long ((Q.2 14 (12 + k)) &&& g9)), (8, .long ((Q.2 14 k) &&& f9)), (0, .ref (gA G 0)), (2, .long f9), (4, .long g9), (6, .int a), (7, .int (nI k))]) hx hb dX3_exchange_132 hl (by decide) rfl (fun ls hl => ?_)
          refine lv_iload hx hb dX3_exchange_134 (lv_at hl 5 rfl) ?_
          refine lv_lload hx hb dX3_exchange_136 (lv_at hl 1 rfl) ?_
          refine lv_aload_n hx hb dX3_exchange_138 rfl (lv_at hl 2 rfl) ?_
          refine va_get (D := gD G) (ci := 3) (v := .ref (gA G 14)) (C := RX3) (T := TX3) (N := 22) hx hb hts inX3 hown hK.1 hW 0 mw_0 rfl 16 (by decide) (hts (.fieldLink RX3 58 "MarkedTreesModel" "certificates" "[J") (by decide +kernel)) (fun _ h9 => h9) rfl dX3_exchange_139 ?_
          refine lv_bipush (v := nI 12) hx hb dX3_exchange_142 (by decide) ?_
          refine lv_iload hx hb dX3_exchange_144 (lv_at hl 6 rfl) ?_
          refine nv_iadd hx hb dX3_exchange_146 ?_
          refine nv_lald hx hb hK.1 hW 14 1 mw_14 rfl (i := 12 + k) (by omega) (by decide) dX3_exchange_147 ?_
          refine lv_ldc2 (v := (-1)) hx hb hown (hts (.constantLong RX3 120 (-1)) (by decide +kernel)) dX3_exchange_148 ?_
          refine lv_lxor hx hb dX3_exchange_151 ?_
          refine lv_land hx hb dX3_exchange_152 ?_
          refine pv_i (va_runS (As := [.long (((Q.2 14 k) &&& f9) &&& ((Q.2 14 (12 + k)) ^^^ (-1)))]) (rest := [.int a]) ⟨hx, hb, hml, hown, hts⟩ (k_X3_bits l (((Q.2 14 k) &&& f9) &&& ((Q.2 14 (12 + k)) ^^^ (-1)))) (va_cwS 1 hts gX3_exchange_X3_bits rfl rfl rfl (by decide +kernel) ⟨Nat.le_of_ble_eq_true rfl, Nat.le_of_ble_eq_true rfl⟩) ⟨(fun _ _ _ _ h => h), fun U _ _ => ⟨rfl, trivial⟩⟩ rfl rfl hl.1 rfl (lv_room (Nat.le_of_ble_eq_true rfl)) dX3_exchange_153 ⟨Nat.le_of_ble_eq_true rfl, Nat.le_of_ble_eq_true rfl⟩) (fun r_12 hr_12 => ?_)
          have hr_12 : r_12 = mbG (((Q.2 14 k) &&& f9) &&& ((Q.2 14 (12 + k)) ^^^ (-1))) 64 0 (nI 0) := hr_12
          subst hr_12
          refine lv_lload hx hb dX3_exchange_156 (lv_at hl 0 rfl) ?_
          refine lv_aload_n hx hb dX3_exchange_158 rfl (lv_at hl 2 rfl) ?_
          refine va_get (D := gD G) (ci := 3) (v := .ref (gA G 14)) (C := RX3) (T := TX3) (N := 22) hx hb hts inX3 hown hK.1 hW 0 mw_0 rfl 16 (by decide) (hts (.fieldLink RX3 58 "MarkedTreesModel" "certificates" "[J") (by decide +kernel)) (fun _ h9 => h9) rfl dX3_exchange_159 ?_
          refine lv_iload hx hb dX3_exchange_162 (lv_at hl 6 rfl) ?_
          refine nv_lald hx hb hK.1 hW 14 1 mw_14 rfl (i := k) (by omega) (by decide) dX3_exchange_164 ?_
          refine lv_ldc2 (v := (-1)) hx hb hown (hts (.constantLong RX3 120 (-1)) (by decide +kernel)) dX3_exchange_165 ?_
          refine lv_lxor hx hb dX3_exchange_168 ?_
          refine lv_land hx hb dX3_exchange_169 ?_
          refine pv_i (va_runS (As := [.long (((Q.2 14 (12 + k)) &&& g9) &&& ((Q.2 14 k) ^^^ (-1)))]) (rest := [.int (mbG (((Q.2 14 k) &&& f9) &&& ((Q.2 14 (12 + k)) ^^^ (-1))) 64 0 (nI 0)), .int a]) ⟨hx, hb, hml, hown, hts⟩ (k_X3_bits l (((Q.2 14 (12 + k)) &&& g9) &&& ((Q.2 14 k) ^^^ (-1)))) (va_cwS 1 hts gX3_exchange_X3_bits rfl rfl rfl (by decide +kernel) ⟨Nat.le_of_ble_eq_true rfl, Nat.le_of_ble_eq_true rfl⟩) ⟨(fun _ _ _ _ h => h), fun U _ _ => ⟨rfl, trivial⟩⟩ rfl rfl hl.1 rfl (lv_room (Nat.le_of_ble_eq_true rfl)) dX3_exchange_170 ⟨Nat.le_of_ble_eq_true rfl, Nat.le_of_ble_eq_true rfl⟩) (fun r_13 hr_13 => ?_)
          have hr_13 : r_13 = mbG (((Q.2 14 (12 + k)) &&& g9) &&& ((Q.2 14 k) ^^^ (-1))) 64 0 (nI 0) := hr_13
          subst hr_13
          refine lv_iadd hx hb dX3_exchange_173 ?_
          refine lv_iadd hx hb dX3_exchange_174 ?_
          refine lv_istore (lv' := [(6, .int (a + ((mbG (((Q.2 14 k) &&& f9) &&& ((Q.2 14 (12 + k)) ^^^ (-1))) 64 0 (nI 0)) + (mbG (((Q.2 14 (12 + k)) &&& g9) &&& ((Q.2 14 k) ^^^ (-1))) 64 0 (nI 0))))), (10, .long ((Q.2 14 (12 + k)) &&& g9)), (8, .long ((Q.2 14 k) &&& f9)), (0, .ref (gA G 0)), (2, .long f9), (4, .long g9), (7, .int (nI k))]) hx hb dX3_exchange_175 hl (by decide) rfl (fun ls hl => ?_)
          refine lv_aload_n hx hb dX3_exchange_177 rfl (lv_at hl 3 rfl) ?_
          refine va_get (D := gD G) (ci := 3) (v := .ref (gA G 14)) (C := RX3) (T := TX3) (N := 22) hx hb hts inX3 hown hK.1 hW 0 mw_0 rfl 16 (by decide) (hts (.fieldLink RX3 58 "MarkedTreesModel" "certificates" "[J") (by decide +kernel)) (fun _ h9 => h9) rfl dX3_exchange_178 ?_
          refine lv_bipush (v := nI 12) hx hb dX3_exchange_181 (by decide) ?_
          refine lv_iload hx hb dX3_exchange_183 (lv_at hl 6 rfl) ?_
          refine nv_iadd hx hb dX3_exchange_185 ?_
          refine lv_dup2_11 hx hb dX3_exchange_186 rfl rfl ?_
          refine nv_lald hx hb hK.1 hW 14 1 mw_14 rfl (i := 12 + k) (by omega) (by decide) dX3_exchange_187 ?_
          refine lv_lload hx hb dX3_exchange_188 (lv_at hl 2 rfl) ?_
          refine lv_lor hx hb dX3_exchange_190 ?_
          refine nv_last hx hb hK.1 hW (wl_D hK.2.1) hS 14 1 mw_14 rfl (i := 12 + k) (by omega) (by decide) dX3_exchange_191 (fun H locs hW hS => ?_)
          have hW : mW G (s2 Q 14 (12 + k) ((Q.2 14 (12 + k)) ||| ((Q.2 14 k) &&& f9))) H := mp_14 hW
          obtain ⟨S_14, eS_14⟩ : ∃ z, z = s2 Q 14 (12 + k) ((Q.2 14 (12 + k)) ||| ((Q.2 14 k) &&& f9)) := ⟨_, rfl⟩
          rw [← eS_14] at hW
          refine lv_aload_n hx hb dX3_exchange_192 rfl (lv_at hl 3 rfl) ?_
          refine va_get (D := gD G) (ci := 3) (v := .ref (gA G 14)) (C := RX3) (T := TX3) (N := 22) hx hb hts inX3 hown hK.1 hW 0 mw_0 rfl 16 (by decide) (hts (.fieldLink RX3 58 "MarkedTreesModel" "certificates" "[J") (by decide +kernel)) (fun _ h9 => h9) rfl dX3_exchange_193 ?_
          refine lv_iload hx hb dX3_exchange_196 (lv_at hl 6 rfl) ?_
          refine lv_dup2_11 hx hb dX3_exchange_198 rfl rfl ?_
          refine nv_lald hx hb hK.1 hW 14 1 mw_14 rfl (i := k) (by omega) (by decide) dX3_exchange_199 ?_
          refine lv_lload hx hb dX3_exchange_200 (lv_at hl 1 rfl) ?_
          refine lv_lor hx hb dX3_exchange_202 ?_
          refine nv_last hx hb hK.1 hW (wl_D hK.2.1) hS 14 1 mw_14 rfl (i := k) (by omega) (by decide) dX3_exchange_203 (fun H locs hW hS => ?_)
          have hW : mW G (s2 S_14 14 k ((S_14.2 14 k) ||| ((Q.2 14 (12 + k)) &&& g9))) H := mp_14 hW
          obtain ⟨S_15, eS_15⟩ : ∃ z, z = s2 S_14 14 k ((S_14.2 14 k) ||| ((Q.2 14 (12 + k)) &&& g9)) := ⟨_, rfl⟩
          rw [← eS_15] at hW
          refine lv_iinc (v := nI (k + 1)) (lv' := [(7, .int (nI (k + 1))), (6, .int (a + ((mbG (((Q.2 14 k) &&& f9) &&& ((Q.2 14 (12 + k)) ^^^ (-1))) 64 0 (nI 0)) + (mbG (((Q.2 14 (12 + k)) &&& g9) &&& ((Q.2 14 k) ^^^ (-1))) 64 0 (nI 0))))), (10, .long ((Q.2 14 (12 + k)) &&& g9)), (8, .long ((Q.2 14 k) &&& f9)), (0, .ref (gA G 0)), (2, .long f9), (4, .long g9)]) hx hb dX3_exchange_204 hl (k := 6) rfl (nI_add k 1) (by decide) rfl (fun ls hl => ?_)
          refine lv_goto (tgt := 101) hx hb dX3_exchange_207 (by decide) ?_
          have E : mxG f9 g9 (n + 1) k a Q = mxG f9 g9 n (k + 1) (a + ((mbG (((Q.2 14 k) &&& f9) &&& ((Q.2 14 (12 + k)) ^^^ (-1))) 64 0 (nI 0)) + (mbG (((Q.2 14 (12 + k)) &&& g9) &&& ((Q.2 14 k) ^^^ (-1))) 64 0 (nI 0)))) S_15 := by subst_vars; rfl
          rw [E]
          exact ih (k + 1) _ S_15 H locs hW hS (by omega) ls (lv_sub hl [4, 5, 6, 1, 0] rfl)
    obtain ⟨a9, ea9⟩ : ∃ z, z = (mbG ((mclG (mT S) (mmG (mT S) 0 n_3 4 0 0) 40 0 (mmG (mT S) 0 n_3 4 0 0)) &&& (((mT S).2 10 1) ^^^ (-1))) 64 0 (nI 0)) + (mbG ((mclG (mT S) (mmG (mT S) 1 n_3 4 0 0) 40 0 (mmG (mT S) 1 n_3 4 0 0)) &&& (((mT S).2 10 0) ^^^ (-1))) 64 0 (nI 0)) := ⟨_, rfl⟩
    have hl : lv_has ls 12 [(7, .int (nI 0)), (6, .int a9), (4, .long g9), (2, .long f9), (0, .ref (gA G 0)), (1, .int (nI n_3))] := by rw [ea9, ef9, eg9]; exact hl
    have Eq : mdExch (mT S) (cn (nI n_3)) = mxG f9 g9 12 0 a9 S_11 := by rw [cn_n_3, ea9, ef9, eg9, eS_11]; unfold mdExch msnd; rw [eS_10]
    have E : mF (mT S) (mcExch (nI n_3)) (mdExch (mT S) (cn (nI n_3))).2 = (mxG f9 g9 12 0 a9 S_11).2 := by rw [mF_ok (by unfold mcExch; rw [if_pos d_11]), Eq]
    rw [E, Eq]
    exact LP 12 0 a9 S_11 H locs hW hS (by omega) ls (lv_sub hl [4, 3, 2, 1, 0] rfl)
  · have d_11 : inB x 3 = false := (inM_B x (n := 2) (by decide)).symm.trans c_11
    refine lv_aload_n hx hb dX3_exchange_14 rfl (lv_at hl 0 rfl) ?_
    refine lv_iconst (v := nI 1) hx hb dX3_exchange_15 (by decide) ?_
    refine ev_i (va_runV (As := [.int (nI 1)]) (rest := []) ⟨hx, hb, hml, hown, hts⟩ (k_X3_fail l G (mT S) H.size (nI 1)) (cwV 1 hts gX3_exchange_X3_fail rfl rfl rfl (by decide +kernel) ⟨Nat.le_of_ble_eq_true rfl, Nat.le_of_ble_eq_true rfl⟩) ⟨mQ_blind, m_recv hW hK, mQ_at hW hK hS⟩ rfl rfl hl.1 rfl (lv_room (Nat.le_of_ble_eq_true rfl)) dX3_exchange_16 ⟨Nat.le_of_ble_eq_true rfl, Nat.le_of_ble_eq_true rfl⟩) hS (fun r_17 S_16 t9 H locs ht9 hS_16 hW hS => ?_)
    have hW : mW G S_16 H := ht9 ▸ hW
    obtain ⟨rfl, eS_16⟩ := hS_16
    exact W.iret (v := nI 0) hx hb hr (fun t9 ht9 _ => ⟨⟨_, S_16, rfl, ⟨no0 (k := 1) (by unfold mcExch; rw [if_neg (ne_true_of_eq_false d_11)]) (by decide), (by rw [mF_no (by unfold mcExch; rw [if_neg (ne_true_of_eq_false d_11)]) (by decide)]; exact eS_16)⟩, (show mW G S_16 t9.heap by rw [ht9]; exact hW)⟩, hS.F ht9⟩) hS.2.2 dX3_exchange_19
