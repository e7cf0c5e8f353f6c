set_option maxHeartbeats 4000000 in
set_option maxRecDepth 100000 in
theorem k_X2_move (l : Launch) (hlt : l.stackTraces = false) (G : GT) (S : SS) (sz : Nat) (x y z w : Int32) : vx_Met l yX2_move wsX2_move ({ frames := 8, cells := 8, slots := 48, locals := 125 } : Room) (va_Pc [.ref (gA G 139), .int x, .int y, .int z, .int w] (fun U => U.heap.size = sz ∧ cP G S U)) (va_Qv (fun S' => cdMove S x y z w = 0 ∧ S' = s1 S (3 * (41 + cn x) + 1) (cn y * 3 + 0) (nI (cn z * 10 + cn w))) (cB G) (gF G sz)) (xT (fun E => E = eX (cdMove S x y z w) ∧ ¬ cdMove S x y z w = 0)) 8 48 (gF G sz) := by
  refine vx_ofW (cc := cX2_move) (maxL := 8) (ret := none) (by decide) rfl ?_
  intro p e s m args below meth c s₁ B hml hout hv
  obtain ⟨rfl, hsz, hW, hK⟩ := hv
  subst hsz
  have hx := B.exec
  have hb := B.bytes
  have hr := B.returns
  have hts := atoms_spec (ws := wsX2_move) B.pre
  have hown : s.vm.findClass RX2 = some m.cls := findClass_of_methodNamed B.named
  have hlocks := B.notSynchronized
  have hS : va_S (gF G s.heap.size) s.heap s.heap [] := va_S.rf
  have hatA : ∀ w ∈ (vx_atS RX2 90 eA eU).filter goodWord, w.before _ s = true := fun w hw => hts w ((by decide +kernel : ∀ w ∈ (vx_atS RX2 90 eA eU).filter goodWord, w ∈ wsX2_move) w hw)
  have hl := lv_entry ([.ref (gA G 139), .int x, .int y, .int z, .int w]) (n := 8) (Nat.le_of_ble_eq_true rfl)
  rw [lg_entry_eq]
  generalize (lg_sl ([.ref (gA G 139), .int x, .int y, .int z, .int w]) ++ List.replicate (8 - (lg_sl ([.ref (gA G 139), .int x, .int y, .int z, .int w])).length) Slot.unset).toArray = ls at hl ⊢
  have hl : lv_has ls 8 [(0, .ref (gA G 139)), (1, .int x), (2, .int y), (3, .int z), (4, .int w)] := hl
  refine lv_aload_n hx hb dX2_move_0 rfl (lv_at hl 0 rfl) ?_
  refine lv_iload_n hx hb dX2_move_1 rfl (lv_at hl 1 rfl) ?_
  refine tv_r (vx_runV (As := [.int x]) (rest := []) ⟨hx, hb, hml, hown, hts⟩ (k_X2_workspaceOf l hlt G S x) (cwV 1 hts gX2_move_X2_workspaceOf rfl rfl rfl (by decide +kernel) ⟨Nat.le_of_ble_eq_true rfl, Nat.le_of_ble_eq_true rfl⟩) ⟨cP_blind, c_recv hW hK (k := 139) (ci := 2) cw_O rfl, cP_at hW hK hS⟩ rfl rfl hl.1 rfl (lv_room (Nat.le_of_ble_eq_true rfl)) dX2_move_2 ⟨Nat.le_of_ble_eq_true rfl, Nat.le_of_ble_eq_true rfl⟩) hout hlocks (fun E hE => hE.elim (fun hE => thr_of (k := 1) (by unfold cdMove; rw [if_neg (isP_no hE.2)]) hE.1 (by decide)) (fun hE => by obtain ⟨e1, i9, hi9, rfl, hb9⟩ := hE; exact thr_of (k := 3) (by unfold cdMove; simp only [cn_nI (show i9 < 2 ^ 31 by omega)]; rw [if_pos (isP_nI hi9), if_pos hb9]) e1 (by decide))) (Nat.le_of_ble_eq_true rfl) (Nat.le_of_ble_eq_true rfl) (fun k_1 h_2 => ?_)
  obtain ⟨i_2, hi_2, rfl, hb_2, rfl⟩ := h_2
  have cn_i_2 : cn (nI i_2) = i_2 := cn_nI (by omega)
  refine lv_astore (lv' := [(5, .ref (gA G (3 * (41 + i_2)))), (0, .ref (gA G 139)), (1, .int (nI i_2)), (2, .int y), (3, .int z), (4, .int w)]) hx hb dX2_move_5 hl (by decide) rfl (fun ls hl => ?_)
  refine lv_aload hx hb dX2_move_7 (lv_at hl 0 rfl) ?_
  refine lv_iload_n hx hb dX2_move_9 rfl (lv_at hl 3 rfl) ?_
  refine tv_v (vx_runS (As := [.ref (gA G (3 * (41 + i_2))), .int y]) (rest := []) ⟨hx, hb, hml, hown, hts⟩ (k_X2_requireAlive l hlt G S (t := 41 + i_2) (by omega) y) (va_cwS 2 hts gX2_move_X2_requireAlive rfl rfl rfl (by decide +kernel) ⟨Nat.le_of_ble_eq_true rfl, Nat.le_of_ble_eq_true rfl⟩) ⟨cP_blind, cP_at hW hK hS⟩ rfl rfl hl.1 rfl (lv_room (Nat.le_of_ble_eq_true rfl)) dX2_move_10 ⟨Nat.le_of_ble_eq_true rfl, Nat.le_of_ble_eq_true rfl⟩) hout hlocks (fun E hE => thr_of (k := 1) (by unfold cdMove; (try simp only [cn_i_2]); rw [if_pos (isP_nI hi_2), if_neg hb_2, if_neg (by rw [hE.2]; exact Bool.false_ne_true)]) hE.1 (by decide)) (Nat.le_of_ble_eq_true rfl) (Nat.le_of_ble_eq_true rfl) (fun h_10 => ?_)
  obtain ⟨n_3, hn_3, rfl⟩ := aliveB_of h_10
  have cn_n_3 : cn (nI n_3) = n_3 := cn_nI (by omega)
  refine lv_aload hx hb dX2_move_13 (lv_at hl 0 rfl) ?_
  refine lv_iload_n hx hb dX2_move_15 rfl (lv_at hl 4 rfl) ?_
  refine tv_v (vx_runS (As := [.ref (gA G (3 * (41 + i_2))), .int z]) (rest := []) ⟨hx, hb, hml, hown, hts⟩ (k_X2_requireAlive l hlt G S (t := 41 + i_2) (by omega) z) (va_cwS 2 hts gX2_move_X2_requireAlive rfl rfl rfl (by decide +kernel) ⟨Nat.le_of_ble_eq_true rfl, Nat.le_of_ble_eq_true rfl⟩) ⟨cP_blind, cP_at hW hK hS⟩ rfl rfl hl.1 rfl (lv_room (Nat.le_of_ble_eq_true rfl)) dX2_move_16 ⟨Nat.le_of_ble_eq_true rfl, Nat.le_of_ble_eq_true rfl⟩) hout hlocks (fun E hE => thr_of (k := 1) (by unfold cdMove; (try simp only [cn_i_2, cn_n_3]); rw [if_pos (isP_nI hi_2), if_neg hb_2, if_pos h_10, if_neg (by rw [hE.2]; exact Bool.false_ne_true)]) hE.1 (by decide)) (Nat.le_of_ble_eq_true rfl) (Nat.le_of_ble_eq_true rfl) (fun h_16 => ?_)
  obtain ⟨n_4, hn_4, rfl⟩ := aliveB_of h_16
  have cn_n_4 : cn (nI n_4) = n_4 := cn_nI (by omega)
  refine lv_iload_n hx hb dX2_move_19 rfl (lv_at hl 3 rfl) ?_
  refine tv_v (vx_runS (As := [.int (nI n_3)]) (rest := []) ⟨hx, hb, hml, hown, hts⟩ (k_X2_requireNotRoot l hlt G S (nI n_3)) (va_cwS 1 hts gX2_move_X2_requireNotRoot rfl rfl rfl (by decide +kernel) ⟨Nat.le_of_ble_eq_true rfl, Nat.le_of_ble_eq_true rfl⟩) ⟨cP_blind, cP_at hW hK hS⟩ rfl rfl hl.1 rfl (lv_room (Nat.le_of_ble_eq_true rfl)) dX2_move_20 ⟨Nat.le_of_ble_eq_true rfl, Nat.le_of_ble_eq_true rfl⟩) hout hlocks (fun E hE => thr_of (k := 2) (by unfold cdMove; (try simp only [cn_i_2, cn_n_3, cn_n_4]); rw [if_pos (isP_nI hi_2), if_neg hb_2, if_pos h_10, if_pos h_16, if_pos hE.2]) hE.1 (by decide)) (Nat.le_of_ble_eq_true rfl) (Nat.le_of_ble_eq_true rfl) (fun h_20 => ?_)
  refine lv_aload_n hx hb dX2_move_23 rfl (lv_at hl 1 rfl) ?_
  refine lv_iload_n hx hb dX2_move_24 rfl (lv_at hl 4 rfl) ?_
  refine lv_iload hx hb dX2_move_25 (lv_at hl 5 rfl) ?_
  refine tv_v (vx_runV (As := [.int (nI n_4), .int w]) (rest := []) ⟨hx, hb, hml, hown, hts⟩ (k_X2_requirePlace l hlt G S (n := n_4) (by omega) w) (cwV 2 hts gX2_move_X2_requirePlace rfl rfl rfl (by decide +kernel) ⟨Nat.le_of_ble_eq_true rfl, Nat.le_of_ble_eq_true rfl⟩) ⟨cP_blind, c_recv hW hK (k := 139) (ci := 2) cw_O rfl, cP_at hW hK hS⟩ rfl rfl hl.1 rfl (lv_room (Nat.le_of_ble_eq_true rfl)) dX2_move_27 ⟨Nat.le_of_ble_eq_true rfl, Nat.le_of_ble_eq_true rfl⟩) hout hlocks (fun E hE => thr_of (k := 2) (by unfold cdMove; (try simp only [cn_i_2, cn_n_3, cn_n_4]); rw [if_pos (isP_nI hi_2), if_neg hb_2, if_pos h_10, if_pos h_16, if_neg h_20, if_neg (fun h9 => hE.2 ⟨h9.1, (inB_iff (by decide)).mp h9.2⟩)]) hE.1 (by decide)) (Nat.le_of_ble_eq_true rfl) (Nat.le_of_ble_eq_true rfl) (fun h_27 => ?_)
  obtain ⟨hd_27, n_5, hn_5, rfl⟩ := h_27
  have cn_n_5 : cn (nI n_5) = n_5 := cn_nI (by omega)
  refine lv_iload_n hx hb dX2_move_30 rfl (lv_at hl 4 rfl) ?_
  refine lv_iload hx hb dX2_move_31 (lv_at hl 5 rfl) ?_
  refine pv_i (va_runS (As := [.int (nI n_4), .int (nI n_5)]) (rest := []) ⟨hx, hb, hml, hown, hts⟩ (k_X2_placeOf l n_4 n_5) (va_cwS 2 hts gX2_move_X2_placeOf rfl rfl rfl (by decide +kernel) ⟨Nat.le_of_ble_eq_true rfl, Nat.le_of_ble_eq_true rfl⟩) ⟨(fun _ _ _ _ h => h), fun U _ _ => ⟨rfl, trivial⟩⟩ rfl rfl hl.1 rfl (lv_room (Nat.le_of_ble_eq_true rfl)) dX2_move_33 ⟨Nat.le_of_ble_eq_true rfl, Nat.le_of_ble_eq_true rfl⟩) (fun r_6 hr_6 => ?_)
  have hr_6 : r_6 = nI (n_4 * 10 + n_5) := hr_6
  subst hr_6
  refine lv_istore (lv' := [(6, .int (nI (n_4 * 10 + n_5))), (5, .ref (gA G (3 * (41 + i_2)))), (0, .ref (gA G 139)), (1, .int (nI i_2)), (2, .int (nI n_3)), (3, .int (nI n_4)), (4, .int (nI n_5))]) hx hb dX2_move_36 hl (by decide) rfl (fun ls hl => ?_)
  refine lv_aload hx hb dX2_move_38 (lv_at hl 1 rfl) ?_
  refine lv_iload hx hb dX2_move_40 (lv_at hl 0 rfl) ?_
  refine pv_i (va_runV (As := [.int (nI (n_4 * 10 + n_5))]) (rest := []) ⟨hx, hb, hml, hown, hts⟩ (k_X1_lowestAt l G S (t := 41 + i_2) (by omega) (nI (n_4 * 10 + n_5))) (cwV 1 hts gX2_move_X1_lowestAt rfl rfl rfl (by decide +kernel) ⟨Nat.le_of_ble_eq_true rfl, Nat.le_of_ble_eq_true rfl⟩) ⟨cP_blind, c_recv hW hK (k := (3 * (41 + i_2))) (ci := 1) (cw_T (t := 41 + i_2) (by omega)) rfl, cP_at hW hK hS⟩ rfl rfl hl.1 rfl (lv_room (Nat.le_of_ble_eq_true rfl)) dX2_move_42 ⟨Nat.le_of_ble_eq_true rfl, Nat.le_of_ble_eq_true rfl⟩) (fun r_7 hr_7 => ?_)
  have hr_7 : r_7 = lowG (fun j => ti (S.1 (3 * (41 + i_2)) 0) j && (S.1 (3 * (41 + i_2) + 1) (j * 3) == nI (n_4 * 10 + n_5))) 15 1 := hr_7
  subst hr_7
  refine lv_istore (lv' := [(7, .int (lowG (fun j => ti (S.1 (3 * (41 + i_2)) 0) j && (S.1 (3 * (41 + i_2) + 1) (j * 3) == nI (n_4 * 10 + n_5))) 15 1)), (6, .int (nI (n_4 * 10 + n_5))), (5, .ref (gA G (3 * (41 + i_2)))), (0, .ref (gA G 139)), (1, .int (nI i_2)), (2, .int (nI n_3)), (3, .int (nI n_4)), (4, .int (nI n_5))]) hx hb dX2_move_45 hl (by decide) rfl (fun ls hl => ?_)
  refine lv_iload hx hb dX2_move_47 (lv_at hl 0 rfl) ?_
  refine lv_iconst (v := (-1)) hx hb dX2_move_49 (by decide) ?_
  refine lv_icmp_eq (tgt := 69) hx hb dX2_move_50 (by decide) (fun c_50 => ?_) (fun c_50 => ?_)
  · refine lv_aload hx hb dX2_move_69 (lv_at hl 2 rfl) ?_
    refine lv_iload_n hx hb dX2_move_71 rfl (lv_at hl 6 rfl) ?_
    refine lv_iload_n hx hb dX2_move_72 rfl (lv_at hl 5 rfl) ?_
    refine pv_i (va_runV (As := [.int (nI n_4), .int (nI n_3)]) (rest := []) ⟨hx, hb, hml, hown, hts⟩ (k_X1_leadsTo l G S (t := 41 + i_2) (by omega) (nI n_4) (nI n_3)) (cwV 2 hts gX2_move_X1_leadsTo rfl rfl rfl (by decide +kernel) ⟨Nat.le_of_ble_eq_true rfl, Nat.le_of_ble_eq_true rfl⟩) ⟨cP_blind, c_recv hW hK (k := (3 * (41 + i_2))) (ci := 1) (cw_T (t := 41 + i_2) (by omega)) rfl, cP_at hW hK hS⟩ rfl rfl hl.1 rfl (lv_room (Nat.le_of_ble_eq_true rfl)) dX2_move_73 ⟨Nat.le_of_ble_eq_true rfl, Nat.le_of_ble_eq_true rfl⟩) (fun r_8 hr_8 => ?_)
    have hr_8 : r_8 = bI (leadG S (41 + i_2) (nI n_3) 16 (nI n_4)) := hr_8
    subst hr_8
    refine bv_if_eq (b := leadG S (41 + i_2) (nI n_3) 16 (nI n_4)) (tgt := 89) hx hb dX2_move_76 (by decide) (fun c_76 => ?_) (fun c_76 => ?_)
    · refine lv_aload hx hb dX2_move_89 (lv_at hl 2 rfl) ?_
      refine lv_iload_n hx hb dX2_move_91 rfl (lv_at hl 5 rfl) ?_
      refine lv_iconst (v := nI 0) hx hb dX2_move_92 (by decide) ?_
      refine lv_iload hx hb dX2_move_93 (lv_at hl 1 rfl) ?_
      refine ev_v (va_runV (As := [.int (nI n_3), .int (nI 0), .int (nI (n_4 * 10 + n_5))]) (rest := []) ⟨hx, hb, hml, hown, hts⟩ (k_X1_setValue l G S s.heap.size (t := 41 + i_2) (by omega) (n := n_3) (w := 0) (by omega) (by omega) (nI (n_4 * 10 + n_5))) (cwV 3 hts gX2_move_X1_setValue rfl rfl rfl (by decide +kernel) ⟨Nat.le_of_ble_eq_true rfl, Nat.le_of_ble_eq_true rfl⟩) ⟨cQ_blind, c_recv hW hK (k := (3 * (41 + i_2))) (ci := 1) (cw_T (t := 41 + i_2) (by omega)) rfl, cQ_at hW hK hS⟩ rfl rfl hl.1 rfl (lv_room (Nat.le_of_ble_eq_true rfl)) dX2_move_95 ⟨Nat.le_of_ble_eq_true rfl, Nat.le_of_ble_eq_true rfl⟩) hS (fun S_9 t9 H locs ht9 hS_9 hW hS => ?_)
      have hW : cW G S_9 H := ht9 ▸ hW
      refine vx_ret ?_
      refine W.widen (k := 8) (n := 48) (by omega) (by omega) ?_
      exact W.vret hx hb hr (fun t9 ht9 _ => ⟨⟨S_9, rfl, ⟨(by unfold cdMove; (try simp only [cn_i_2, cn_n_3, cn_n_4, cn_n_5]); rw [if_pos (isP_nI hi_2), if_neg hb_2, if_pos h_10, if_pos h_16, if_neg h_20, if_pos ⟨hd_27, inB_nI hn_5 (by decide)⟩, if_pos (Or.inl c_50), if_neg (ne_true_of_eq_false c_76)]), by (try simp only [cn_i_2, cn_n_3, cn_n_4, cn_n_5]); subst_vars; rfl⟩, (show cW G S_9 t9.heap by rw [ht9]; exact hW)⟩, hS.F ht9⟩) hS.2.2 dX2_move_98
    · exact tv_throw (text := "parent is the node or lies in it") hx hb hlt hown hK hout hlocks (hl.1.trans hml.symm) fit_A at_Ag at_A0 (by decide) (hts (.classLink RX2 86 eA) (by decide +kernel)) (hts (.initialized eA) (by decide +kernel)) hatA (by decide) (thr_of (k := 2) (by unfold cdMove; (try simp only [cn_i_2, cn_n_3, cn_n_4, cn_n_5]); rw [if_pos (isP_nI hi_2), if_neg hb_2, if_pos h_10, if_pos h_16, if_neg h_20, if_pos ⟨hd_27, inB_nI hn_5 (by decide)⟩, if_pos (Or.inl c_50), if_pos c_76]) rfl (by decide)) ⟨Nat.le_of_ble_eq_true rfl, Nat.le_of_ble_eq_true rfl, Nat.le_of_ble_eq_true rfl, Nat.le_of_ble_eq_true rfl, Nat.le_of_ble_eq_true rfl, Nat.le_of_ble_eq_true rfl⟩ dX2_move_79 dX2_move_82 dX2_move_83 dX2_move_85 dX2_move_88
  · refine lv_iload hx hb dX2_move_53 (lv_at hl 0 rfl) ?_
    refine lv_iload_n hx hb dX2_move_55 rfl (lv_at hl 5 rfl) ?_
    refine lv_icmp_eq (tgt := 69) hx hb dX2_move_56 (by decide) (fun c_56 => ?_) (fun c_56 => ?_)
    · refine lv_aload hx hb dX2_move_69 (lv_at hl 2 rfl) ?_
      refine lv_iload_n hx hb dX2_move_71 rfl (lv_at hl 6 rfl) ?_
      refine lv_iload_n hx hb dX2_move_72 rfl (lv_at hl 5 rfl) ?_
      refine pv_i (va_runV (As := [.int (nI n_4), .int (nI n_3)]) (rest := []) ⟨hx, hb, hml, hown, hts⟩ (k_X1_leadsTo l G S (t := 41 + i_2) (by omega) (nI n_4) (nI n_3)) (cwV 2 hts gX2_move_X1_leadsTo rfl rfl rfl (by decide +kernel) ⟨Nat.le_of_ble_eq_true rfl, Nat.le_of_ble_eq_true rfl⟩) ⟨cP_blind, c_recv hW hK (k := (3 * (41 + i_2))) (ci := 1) (cw_T (t := 41 + i_2) (by omega)) rfl, cP_at hW hK hS⟩ rfl rfl hl.1 rfl (lv_room (Nat.le_of_ble_eq_true rfl)) dX2_move_73 ⟨Nat.le_of_ble_eq_true rfl, Nat.le_of_ble_eq_true rfl⟩) (fun r_10 hr_10 => ?_)
      have hr_10 : r_10 = bI (leadG S (41 + i_2) (nI n_3) 16 (nI n_4)) := hr_10
      subst hr_10
      refine bv_if_eq (b := leadG S (41 + i_2) (nI n_3) 16 (nI n_4)) (tgt := 89) hx hb dX2_move_76 (by decide) (fun c_76 => ?_) (fun c_76 => ?_)
      · refine lv_aload hx hb dX2_move_89 (lv_at hl 2 rfl) ?_
        refine lv_iload_n hx hb dX2_move_91 rfl (lv_at hl 5 rfl) ?_
        refine lv_iconst (v := nI 0) hx hb dX2_move_92 (by decide) ?_
        refine lv_iload hx hb dX2_move_93 (lv_at hl 1 rfl) ?_
        refine ev_v (va_runV (As := [.int (nI n_3), .int (nI 0), .int (nI (n_4 * 10 + n_5))]) (rest := []) ⟨hx, hb, hml, hown, hts⟩ (k_X1_setValue l G S s.heap.size (t := 41 + i_2) (by omega) (n := n_3) (w := 0) (by omega) (by omega) (nI (n_4 * 10 + n_5))) (cwV 3 hts gX2_move_X1_setValue rfl rfl rfl (by decide +kernel) ⟨Nat.le_of_ble_eq_true rfl, Nat.le_of_ble_eq_true rfl⟩) ⟨cQ_blind, c_recv hW hK (k := (3 * (41 + i_2))) (ci := 1) (cw_T (t := 41 + i_2) (by omega)) rfl, cQ_at hW hK hS⟩ rfl rfl hl.1 rfl (lv_room (Nat.le_of_ble_eq_true rfl)) dX2_move_95 ⟨Nat.le_of_ble_eq_true rfl, Nat.le_of_ble_eq_true rfl⟩) hS (fun S_11 t9 H locs ht9 hS_11 hW hS => ?_)
        have hW : cW G S_11 H := ht9 ▸ hW
        refine vx_ret ?_
        refine W.widen (k := 8) (n := 48) (by omega) (by omega) ?_
        exact W.vret hx hb hr (fun t9 ht9 _ => ⟨⟨S_11, rfl, ⟨(by unfold cdMove; (try simp only [cn_i_2, cn_n_3, cn_n_4, cn_n_5]); rw [if_pos (isP_nI hi_2), if_neg hb_2, if_pos h_10, if_pos h_16, if_neg h_20, if_pos ⟨hd_27, inB_nI hn_5 (by decide)⟩, if_pos (Or.inr c_56), if_neg (ne_true_of_eq_false c_76)]), by (try simp only [cn_i_2, cn_n_3, cn_n_4, cn_n_5]); subst_vars; rfl⟩, (show cW G S_11 t9.heap by rw [ht9]; exact hW)⟩, hS.F ht9⟩) hS.2.2 dX2_move_98
      · exact tv_throw (text := "parent is the node or lies in it") hx hb hlt hown hK hout hlocks (hl.1.trans hml.symm) fit_A at_Ag at_A0 (by decide) (hts (.classLink RX2 86 eA) (by decide +kernel)) (hts (.initialized eA) (by decide +kernel)) hatA (by decide) (thr_of (k := 2) (by unfold cdMove; (try simp only [cn_i_2, cn_n_3, cn_n_4, cn_n_5]); rw [if_pos (isP_nI hi_2), if_neg hb_2, if_pos h_10, if_pos h_16, if_neg h_20, if_pos ⟨hd_27, inB_nI hn_5 (by decide)⟩, if_pos (Or.inr c_56), if_pos c_76]) rfl (by decide)) ⟨Nat.le_of_ble_eq_true rfl, Nat.le_of_ble_eq_true rfl, Nat.le_of_ble_eq_true rfl, Nat.le_of_ble_eq_true rfl, Nat.le_of_ble_eq_true rfl, Nat.le_of_ble_eq_true rfl⟩ dX2_move_79 dX2_move_82 dX2_move_83 dX2_move_85 dX2_move_88
    · exact tv_throw (text := "another node has that place") hx hb hlt hown hK hout hlocks (hl.1.trans hml.symm) fit_A at_Ag at_A0 (by decide) (hts (.classLink RX2 86 eA) (by decide +kernel)) (hts (.initialized eA) (by decide +kernel)) hatA (by decide) (thr_of (k := 2) (by unfold cdMove; (try simp only [cn_i_2, cn_n_3, cn_n_4, cn_n_5]); rw [if_pos (isP_nI hi_2), if_neg hb_2, if_pos h_10, if_pos h_16, if_neg h_20, if_pos ⟨hd_27, inB_nI hn_5 (by decide)⟩, if_neg (fun h9 => h9.elim c_50 c_56)]) rfl (by decide)) ⟨Nat.le_of_ble_eq_true rfl, Nat.le_of_ble_eq_true rfl, Nat.le_of_ble_eq_true rfl, Nat.le_of_ble_eq_true rfl, Nat.le_of_ble_eq_true rfl, Nat.le_of_ble_eq_true rfl⟩ dX2_move_59 dX2_move_62 dX2_move_63 dX2_move_65 dX2_move_68

set_option maxHeartbeats 4000000 in
set_option maxRecDepth 100000 in
theorem k_X2_write (l : Launch) (hlt : l.stackTraces = false) (G : GT) (S : SS) (sz : Nat) (x y z v : Int32) : vx_Met l yX2_write wsX2_write ({ frames := 8, cells := 8, slots := 48, locals := 125 } : Room) (va_Pc [.ref (gA G 139), .int x, .int y, .int z, .int v] (fun U => U.heap.size = sz ∧ cP G S U)) (va_Qv (fun S' => cdWrite S x y z = 0 ∧ S' = s1 S (3 * (41 + cn x) + 1) (cn y * 3 + cn z) v) (cB G) (gF G sz)) (xT (fun E => E = eX (cdWrite S x y z) ∧ ¬ cdWrite S x y z = 0)) 8 48 (gF G sz) := by
  refine vx_ofW (cc := cX2_write) (maxL := 6) (ret := none) (by decide) rfl ?_
  intro p e s m args below meth c s₁ B hml hout hv
  obtain ⟨rfl, hsz, hW, hK⟩ := hv
  subst hsz
  have hx := B.exec
  have hb := B.bytes
  have hr := B.returns
  have hts := atoms_spec (ws := wsX2_write) B.pre
  have hown : s.vm.findClass RX2 = some m.cls := findClass_of_methodNamed B.named
  have hlocks := B.notSynchronized
  have hS : va_S (gF G s.heap.size) s.heap s.heap [] := va_S.rf
  have hatA : ∀ w ∈ (vx_atS RX2 90 eA eU).filter goodWord, w.before _ s = true := fun w hw => hts w ((by decide +kernel : ∀ w ∈ (vx_atS RX2 90 eA eU).filter goodWord, w ∈ wsX2_write) w hw)
  have hl := lv_entry ([.ref (gA G 139), .int x, .int y, .int z, .int v]) (n := 6) (Nat.le_of_ble_eq_true rfl)
  rw [lg_entry_eq]
  generalize (lg_sl ([.ref (gA G 139), .int x, .int y, .int z, .int v]) ++ List.replicate (6 - (lg_sl ([.ref (gA G 139), .int x, .int y, .int z, .int v])).length) Slot.unset).toArray = ls at hl ⊢
  have hl : lv_has ls 6 [(0, .ref (gA G 139)), (1, .int x), (2, .int y), (3, .int z), (4, .int v)] := hl
  refine lv_aload_n hx hb dX2_write_0 rfl (lv_at hl 0 rfl) ?_
  refine lv_iload_n hx hb dX2_write_1 rfl (lv_at hl 1 rfl) ?_
  refine tv_r (vx_runV (As := [.int x]) (rest := []) ⟨hx, hb, hml, hown, hts⟩ (k_X2_workspaceOf l hlt G S x) (cwV 1 hts gX2_write_X2_workspaceOf rfl rfl rfl (by decide +kernel) ⟨Nat.le_of_ble_eq_true rfl, Nat.le_of_ble_eq_true rfl⟩) ⟨cP_blind, c_recv hW hK (k := 139) (ci := 2) cw_O rfl, cP_at hW hK hS⟩ rfl rfl hl.1 rfl (lv_room (Nat.le_of_ble_eq_true rfl)) dX2_write_2 ⟨Nat.le_of_ble_eq_true rfl, Nat.le_of_ble_eq_true rfl⟩) hout hlocks (fun E hE => hE.elim (fun hE => thr_of (k := 1) (by unfold cdWrite; rw [if_neg (isP_no hE.2)]) hE.1 (by decide)) (fun hE => by obtain ⟨e1, i9, hi9, rfl, hb9⟩ := hE; exact thr_of (k := 3) (by unfold cdWrite; simp only [cn_nI (show i9 < 2 ^ 31 by omega)]; rw [if_pos (isP_nI hi9), if_pos hb9]) e1 (by decide))) (Nat.le_of_ble_eq_true rfl) (Nat.le_of_ble_eq_true rfl) (fun k_1 h_2 => ?_)
  obtain ⟨i_2, hi_2, rfl, hb_2, rfl⟩ := h_2
  have cn_i_2 : cn (nI i_2) = i_2 := cn_nI (by omega)
  refine lv_astore (lv' := [(5, .ref (gA G (3 * (41 + i_2)))), (0, .ref (gA G 139)), (1, .int (nI i_2)), (2, .int y), (3, .int z), (4, .int v)]) hx hb dX2_write_5 hl (by decide) rfl (fun ls hl => ?_)
  refine lv_aload hx hb dX2_write_7 (lv_at hl 0 rfl) ?_
  refine lv_iload_n hx hb dX2_write_9 rfl (lv_at hl 3 rfl) ?_
  refine tv_v (vx_runS (As := [.ref (gA G (3 * (41 + i_2))), .int y]) (rest := []) ⟨hx, hb, hml, hown, hts⟩ (k_X2_requireAlive l hlt G S (t := 41 + i_2) (by omega) y) (va_cwS 2 hts gX2_write_X2_requireAlive rfl rfl rfl (by decide +kernel) ⟨Nat.le_of_ble_eq_true rfl, Nat.le_of_ble_eq_true rfl⟩) ⟨cP_blind, cP_at hW hK hS⟩ rfl rfl hl.1 rfl (lv_room (Nat.le_of_ble_eq_true rfl)) dX2_write_10 ⟨Nat.le_of_ble_eq_true rfl, Nat.le_of_ble_eq_true rfl⟩) hout hlocks (fun E hE => thr_of (k := 1) (by unfold cdWrite; (try simp only [cn_i_2]); rw [if_pos (isP_nI hi_2), if_neg hb_2, if_neg (by rw [hE.2]; exact Bool.false_ne_true)]) hE.1 (by decide)) (Nat.le_of_ble_eq_true rfl) (Nat.le_of_ble_eq_true rfl) (fun h_10 => ?_)
  obtain ⟨n_3, hn_3, rfl⟩ := aliveB_of h_10
  have cn_n_3 : cn (nI n_3) = n_3 := cn_nI (by omega)
  refine lv_iload_n hx hb dX2_write_13 rfl (lv_at hl 3 rfl) ?_
  refine tv_v (vx_runS (As := [.int (nI n_3)]) (rest := []) ⟨hx, hb, hml, hown, hts⟩ (k_X2_requireNotRoot l hlt G S (nI n_3)) (va_cwS 1 hts gX2_write_X2_requireNotRoot rfl rfl rfl (by decide +kernel) ⟨Nat.le_of_ble_eq_true rfl, Nat.le_of_ble_eq_true rfl⟩) ⟨cP_blind, cP_at hW hK hS⟩ rfl rfl hl.1 rfl (lv_room (Nat.le_of_ble_eq_true rfl)) dX2_write_14 ⟨Nat.le_of_ble_eq_true rfl, Nat.le_of_ble_eq_true rfl⟩) hout hlocks (fun E hE => thr_of (k := 2) (by unfold cdWrite; (try simp only [cn_i_2, cn_n_3]); rw [if_pos (isP_nI hi_2), if_neg hb_2, if_pos h_10, if_pos hE.2]) hE.1 (by decide)) (Nat.le_of_ble_eq_true rfl) (Nat.le_of_ble_eq_true rfl) (fun h_14 => ?_)
  refine lv_iload_n hx hb dX2_write_17 rfl (lv_at hl 4 rfl) ?_
  refine lv_iconst (v := nI 1) hx hb dX2_write_18 (by decide) ?_
  refine lv_icmp_eq (tgt := 37) hx hb dX2_write_19 (by decide) (fun c_19 => ?_) (fun c_19 => ?_)
  · subst c_19
    refine lv_iload_n hx hb dX2_write_37 rfl (lv_at hl 4 rfl) ?_
    refine lv_iconst (v := nI 1) hx hb dX2_write_38 (by decide) ?_
    refine nv_icmp_ne (tgt := 60) hx hb (by omega) (by omega) dX2_write_39 (by decide) (fun c_39 => ?_) (fun c_39 => ?_)
    · exact absurd c_39 (by decide)
    · refine lv_aload_n hx hb dX2_write_42 rfl (lv_at hl 1 rfl) ?_
      refine lv_iload_n hx hb dX2_write_43 rfl (lv_at hl 3 rfl) ?_
      refine pv_i (va_runV (As := [.int (nI n_3)]) (rest := []) ⟨hx, hb, hml, hown, hts⟩ (k_X2_isDirectory l G S (n := n_3) (by omega)) (cwV 1 hts gX2_write_X2_isDirectory rfl rfl rfl (by decide +kernel) ⟨Nat.le_of_ble_eq_true rfl, Nat.le_of_ble_eq_true rfl⟩) ⟨cP_blind, c_recv hW hK (k := 139) (ci := 2) cw_O rfl, cP_at hW hK hS⟩ rfl rfl hl.1 rfl (lv_room (Nat.le_of_ble_eq_true rfl)) dX2_write_44 ⟨Nat.le_of_ble_eq_true rfl, Nat.le_of_ble_eq_true rfl⟩) (fun r_4 hr_4 => ?_)
      have hr_4 : r_4 = bI (ti (S.1 139 6) n_3) := hr_4
      subst hr_4
      refine bv_if_eq (b := ti (S.1 139 6) n_3) (tgt := 60) hx hb dX2_write_47 (by decide) (fun c_47 => ?_) (fun c_47 => ?_)
      · refine lv_aload hx hb dX2_write_60 (lv_at hl 0 rfl) ?_
        refine lv_iload_n hx hb dX2_write_62 rfl (lv_at hl 3 rfl) ?_
        refine lv_iload_n hx hb dX2_write_63 rfl (lv_at hl 4 rfl) ?_
        refine lv_iload hx hb dX2_write_64 (lv_at hl 5 rfl) ?_
        refine ev_v (va_runV (As := [.int (nI n_3), .int (nI 1), .int v]) (rest := []) ⟨hx, hb, hml, hown, hts⟩ (k_X1_setValue l G S s.heap.size (t := 41 + i_2) (by omega) (n := n_3) (w := 1) (by omega) (by omega) v) (cwV 3 hts gX2_write_X1_setValue rfl rfl rfl (by decide +kernel) ⟨Nat.le_of_ble_eq_true rfl, Nat.le_of_ble_eq_true rfl⟩) ⟨cQ_blind, c_recv hW hK (k := (3 * (41 + i_2))) (ci := 1) (cw_T (t := 41 + i_2) (by omega)) rfl, cQ_at hW hK hS⟩ rfl rfl hl.1 rfl (lv_room (Nat.le_of_ble_eq_true rfl)) dX2_write_66 ⟨Nat.le_of_ble_eq_true rfl, Nat.le_of_ble_eq_true rfl⟩) hS (fun S_5 t9 H locs ht9 hS_5 hW hS => ?_)
        have hW : cW G S_5 H := ht9 ▸ hW
        refine vx_ret ?_
        refine W.widen (k := 8) (n := 48) (by omega) (by omega) ?_
        exact W.vret hx hb hr (fun t9 ht9 _ => ⟨⟨S_5, rfl, ⟨(by unfold cdWrite; (try simp only [cn_i_2, cn_n_3]); rw [if_pos (isP_nI hi_2), if_neg hb_2, if_pos h_10, if_neg h_14, if_pos trivial, if_neg (ne_true_of_eq_false c_47)]), by (try simp only [cn_i_2, cn_n_3]); subst_vars; rfl⟩, (show cW G S_5 t9.heap by rw [ht9]; exact hW)⟩, hS.F ht9⟩) hS.2.2 dX2_write_69
      · exact tv_throw (text := "a directory has no content") hx hb hlt hown hK hout hlocks (hl.1.trans hml.symm) fit_A at_Ag at_A0 (by decide) (hts (.classLink RX2 86 eA) (by decide +kernel)) (hts (.initialized eA) (by decide +kernel)) hatA (by decide) (thr_of (k := 2) (by unfold cdWrite; (try simp only [cn_i_2, cn_n_3]); rw [if_pos (isP_nI hi_2), if_neg hb_2, if_pos h_10, if_neg h_14, if_pos trivial, if_pos c_47]) rfl (by decide)) ⟨Nat.le_of_ble_eq_true rfl, Nat.le_of_ble_eq_true rfl, Nat.le_of_ble_eq_true rfl, Nat.le_of_ble_eq_true rfl, Nat.le_of_ble_eq_true rfl, Nat.le_of_ble_eq_true rfl⟩ dX2_write_50 dX2_write_53 dX2_write_54 dX2_write_56 dX2_write_59
  · refine lv_iload_n hx hb dX2_write_22 rfl (lv_at hl 4 rfl) ?_
    refine lv_iconst (v := nI 2) hx hb dX2_write_23 (by decide) ?_
    refine lv_icmp_eq (tgt := 37) hx hb dX2_write_24 (by decide) (fun c_24 => ?_) (fun c_24 => ?_)
    · subst c_24
      refine lv_iload_n hx hb dX2_write_37 rfl (lv_at hl 4 rfl) ?_
      refine lv_iconst (v := nI 1) hx hb dX2_write_38 (by decide) ?_
      refine nv_icmp_ne (tgt := 60) hx hb (by omega) (by omega) dX2_write_39 (by decide) (fun c_39 => ?_) (fun c_39 => ?_)
      · refine lv_aload hx hb dX2_write_60 (lv_at hl 0 rfl) ?_
        refine lv_iload_n hx hb dX2_write_62 rfl (lv_at hl 3 rfl) ?_
        refine lv_iload_n hx hb dX2_write_63 rfl (lv_at hl 4 rfl) ?_
        refine lv_iload hx hb dX2_write_64 (lv_at hl 5 rfl) ?_
        refine ev_v (va_runV (As := [.int (nI n_3), .int (nI 2), .int v]) (rest := []) ⟨hx, hb, hml, hown, hts⟩ (k_X1_setValue l G S s.heap.size (t := 41 + i_2) (by omega) (n := n_3) (w := 2) (by omega) (by omega) v) (cwV 3 hts gX2_write_X1_setValue rfl rfl rfl (by decide +kernel) ⟨Nat.le_of_ble_eq_true rfl, Nat.le_of_ble_eq_true rfl⟩) ⟨cQ_blind, c_recv hW hK (k := (3 * (41 + i_2))) (ci := 1) (cw_T (t := 41 + i_2) (by omega)) rfl, cQ_at hW hK hS⟩ rfl rfl hl.1 rfl (lv_room (Nat.le_of_ble_eq_true rfl)) dX2_write_66 ⟨Nat.le_of_ble_eq_true rfl, Nat.le_of_ble_eq_true rfl⟩) hS (fun S_6 t9 H locs ht9 hS_6 hW hS => ?_)
        have hW : cW G S_6 H := ht9 ▸ hW
        refine vx_ret ?_
        refine W.widen (k := 8) (n := 48) (by omega) (by omega) ?_
        exact W.vret hx hb hr (fun t9 ht9 _ => ⟨⟨S_6, rfl, ⟨(by unfold cdWrite; (try simp only [cn_i_2, cn_n_3]); rw [if_pos (isP_nI hi_2), if_neg hb_2, if_pos h_10, if_neg h_14, if_neg (by decide), if_pos trivial]), by (try simp only [cn_i_2, cn_n_3]); subst_vars; rfl⟩, (show cW G S_6 t9.heap by rw [ht9]; exact hW)⟩, hS.F ht9⟩) hS.2.2 dX2_write_69
      · exact absurd c_39 (by decide)
    · exact tv_throw (text := "neither content nor attribute") hx hb hlt hown hK hout hlocks (hl.1.trans hml.symm) fit_A at_Ag at_A0 (by decide) (hts (.classLink RX2 86 eA) (by decide +kernel)) (hts (.initialized eA) (by decide +kernel)) hatA (by decide) (thr_of (k := 2) (by unfold cdWrite; (try simp only [cn_i_2, cn_n_3]); rw [if_pos (isP_nI hi_2), if_neg hb_2, if_pos h_10, if_neg h_14, if_neg c_19, if_neg c_24]) rfl (by decide)) ⟨Nat.le_of_ble_eq_true rfl, Nat.le_of_ble_eq_true rfl, Nat.le_of_ble_eq_true rfl, Nat.le_of_ble_eq_true rfl, Nat.le_of_ble_eq_true rfl, Nat.le_of_ble_eq_true rfl⟩ dX2_write_27 dX2_write_30 dX2_write_31 dX2_write_33 dX2_write_36

set_option maxHeartbeats 4000000 in
set_option maxRecDepth 100000 in
theorem k_X2_commit (l : Launch) (hlt : l.stackTraces = false) (G : GT) (S : SS) (sz : Nat) {rc : Nat} (hrc : S.1 139 4 = nI rc) (h40 : rc ≤ 40) {nc : Nat} (hnc : S.1 139 7 = nI nc) (h16 : nc ≤ 16) (h1n : 1 ≤ nc) (hbase : ∀ i, i < 2 → (¬ S.1 (129 + 5 * i) 4 = -1) → ∃ b, b < 40 ∧ S.1 (129 + 5 * i) 4 = nI b) (x : Int32) : vx_Met l yX2_commit wsX2_commit ({ frames := 7, cells := 8, slots := 48, locals := 106 } : Room) (va_Pc [.ref (gA G 139), .int x] (fun U => U.heap.size = sz ∧ cP G S U)) (va_Qi (fun r S' => cdCommit S rc x = 0 ∧ r = nI rc ∧ S' = doCommit S rc nc (cn x) (cn (S.1 (129 + 5 * cn x) 4))) (cB G) (gF G sz)) (xT (fun E => E = eX (cdCommit S rc x) ∧ ¬ cdCommit S rc x = 0)) 8 48 (gF G sz) := by
  refine vx_ofW (cc := cX2_commit) (maxL := 5) (ret := (some .int)) (by decide) rfl ?_
  intro p e s m args below meth c s₁ B hml hout hv
  obtain ⟨rfl, hsz, hW, hK⟩ := hv
  subst hsz
  have hx := B.exec
  have hb := B.bytes
  have hr := B.returns
  have hts := atoms_spec (ws := wsX2_commit) B.pre
  have hown : s.vm.findClass RX2 = some m.cls := findClass_of_methodNamed B.named
  have hlocks := B.notSynchronized
  have hS : va_S (gF G s.heap.size) s.heap s.heap [] := va_S.rf
  have inX0 : ∀ w ∈ u_ws RX0 TX0 10, w ∈ wsX2_commit := by decide +kernel
  have inX2 : ∀ w ∈ u_ws RX2 TX2 10, w ∈ wsX2_commit := by decide +kernel
  have hatS : ∀ w ∈ (vx_atS RX2 97 eS eU).filter goodWord, w.before _ s = true := fun w hw => hts w ((by decide +kernel : ∀ w ∈ (vx_atS RX2 97 eS eU).filter goodWord, w ∈ wsX2_commit) w hw)
  have hl := lv_entry ([.ref (gA G 139), .int x]) (n := 5) (Nat.le_of_ble_eq_true rfl)
  rw [lg_entry_eq]
  generalize (lg_sl ([.ref (gA G 139), .int x]) ++ List.replicate (5 - (lg_sl ([.ref (gA G 139), .int x])).length) Slot.unset).toArray = ls at hl ⊢
  have hl : lv_has ls 5 [(0, .ref (gA G 139)), (1, .int x)] := hl
  refine lv_aload_n hx hb dX2_commit_0 rfl (lv_at hl 0 rfl) ?_
  refine lv_iload_n hx hb dX2_commit_1 rfl (lv_at hl 1 rfl) ?_
  refine tv_r (vx_runV (As := [.int x]) (rest := []) ⟨hx, hb, hml, hown, hts⟩ (k_X2_peerOf l hlt G S x) (cwV 1 hts gX2_commit_X2_peerOf rfl rfl rfl (by decide +kernel) ⟨Nat.le_of_ble_eq_true rfl, Nat.le_of_ble_eq_true rfl⟩) ⟨cP_blind, c_recv hW hK (k := 139) (ci := 2) cw_O rfl, cP_at hW hK hS⟩ rfl rfl hl.1 rfl (lv_room (Nat.le_of_ble_eq_true rfl)) dX2_commit_2 ⟨Nat.le_of_ble_eq_true rfl, Nat.le_of_ble_eq_true rfl⟩) hout hlocks (fun E hE => thr_of (k := 1) (by unfold cdCommit; rw [if_neg (isP_no hE.2)]) hE.1 (by decide)) (Nat.le_of_ble_eq_true rfl) (Nat.le_of_ble_eq_true rfl) (fun k_1 h_2 => ?_)
  obtain ⟨i_2, hi_2, rfl, rfl⟩ := h_2
  have cn_i_2 : cn (nI i_2) = i_2 := cn_nI (by omega)
  refine lv_astore_n (lv' := [(2, .ref (gA G (129 + 5 * i_2))), (0, .ref (gA G 139)), (1, .int (nI i_2))]) hx hb dX2_commit_5 rfl hl (by decide) rfl (fun ls hl => ?_)
  refine lv_aload_n hx hb dX2_commit_6 rfl (lv_at hl 0 rfl) ?_
  refine tv_v (vx_runS (As := [.ref (gA G (129 + 5 * i_2))]) (rest := []) ⟨hx, hb, hml, hown, hts⟩ (k_X2_requireWorkspace l hlt G S (i := i_2) (by omega)) (va_cwS 1 hts gX2_commit_X2_requireWorkspace rfl rfl rfl (by decide +kernel) ⟨Nat.le_of_ble_eq_true rfl, Nat.le_of_ble_eq_true rfl⟩) ⟨cP_blind, cP_at hW hK hS⟩ rfl rfl hl.1 rfl (lv_room (Nat.le_of_ble_eq_true rfl)) dX2_commit_7 ⟨Nat.le_of_ble_eq_true rfl, Nat.le_of_ble_eq_true rfl⟩) hout hlocks (fun E hE => thr_of (k := 3) (by unfold cdCommit; (try simp only [cn_i_2]); rw [if_pos (isP_nI hi_2), if_pos hE.2]) hE.1 (by decide)) (Nat.le_of_ble_eq_true rfl) (Nat.le_of_ble_eq_true rfl) (fun h_7 => ?_)
  refine lv_aload_n hx hb dX2_commit_10 rfl (lv_at hl 0 rfl) ?_
  refine va_get (D := gD G) (ci := 0) (v := .int (S.1 (129 + 5 * i_2) 4)) (C := RX0) (T := TX0) (N := 10) hx hb hts inX0 hown hK.1 hW (129 + 5 * i_2) (cw_P (i := i_2) (by omega)) rfl 4 (by decide) (hts (.fieldLink RX2 63 "MarkedTrees$Peer" "base" "I") (by decide +kernel)) (fun _ h9 => h9) rfl dX2_commit_11 ?_
  refine lv_istore_n (lv' := [(3, .int (S.1 (129 + 5 * i_2) 4)), (2, .ref (gA G (129 + 5 * i_2))), (0, .ref (gA G 139)), (1, .int (nI i_2))]) hx hb dX2_commit_14 rfl hl (by decide) rfl (fun ls hl => ?_)
  obtain ⟨b1, hb1, eb1⟩ := hbase i_2 hi_2 h_7
  have cb1 : cn (S.1 (129 + 5 * i_2) 4) = b1 := by rw [eb1]; exact cn_nI (by omega)
  rw [eb1] at hl
  refine lv_aload_n hx hb dX2_commit_15 rfl (lv_at hl 1 rfl) ?_
  refine va_get (D := gD G) (ci := 0) (v := .ref (gA G (3 * (41 + i_2)))) (C := RX0) (T := TX0) (N := 10) hx hb hts inX0 hown hK.1 hW (129 + 5 * i_2) (cw_P (i := i_2) (by omega)) rfl 3 (by decide) (hts (.fieldLink RX2 56 "MarkedTrees$Peer" "workspace" "LMarkedTrees$Tree;") (by decide +kernel)) (fun _ h9 => h9) rfl dX2_commit_16 ?_
  refine lv_aload_n hx hb dX2_commit_19 rfl (lv_at hl 2 rfl) ?_
  refine va_get (D := gD G) (ci := 2) (v := .ref (gA G 140)) (C := RX2) (T := TX2) (N := 10) hx hb hts inX2 hown hK.1 hW 139 cw_O rfl 2 (by decide) (hts (.fieldLink RX2 21 "MarkedTrees" "trees" "[LMarkedTrees$Tree;") (by decide +kernel)) (fun _ h9 => h9) rfl dX2_commit_20 ?_
  refine lv_iload_n hx hb dX2_commit_23 rfl (lv_at hl 0 rfl) ?_
  refine nv_aald hx hb hK.1 hW 140 3 cw_R rfl (i := b1) (b := gA G (3 * b1)) (by omega) (by decide) rfl dX2_commit_24 ?_
  refine pv_i (va_runV (As := [.ref (gA G (3 * b1))]) (rest := []) ⟨hx, hb, hml, hown, hts⟩ (k_X1_sameAs l G S (t := 41 + i_2) (by omega) (u := b1) (by omega)) (cwV 1 hts gX2_commit_X1_sameAs rfl rfl rfl (by decide +kernel) ⟨Nat.le_of_ble_eq_true rfl, Nat.le_of_ble_eq_true rfl⟩) ⟨cP_blind, c_recv hW hK (k := (3 * (41 + i_2))) (ci := 1) (cw_T (t := 41 + i_2) (by omega)) rfl, cP_at hW hK hS⟩ rfl rfl hl.1 rfl (lv_room (Nat.le_of_ble_eq_true rfl)) dX2_commit_25 ⟨Nat.le_of_ble_eq_true rfl, Nat.le_of_ble_eq_true rfl⟩) (fun r_3 hr_3 => ?_)
  have hr_3 : r_3 = bI (sameB S (41 + i_2) b1) := hr_3
  subst hr_3
  refine bv_if_eq (b := sameB S (41 + i_2) b1) (tgt := 41) hx hb dX2_commit_28 (by decide) (fun c_28 => ?_) (fun c_28 => ?_)
  · refine lv_aload_n hx hb dX2_commit_41 rfl (lv_at hl 2 rfl) ?_
    refine tv_v (vx_runV (As := []) (rest := []) ⟨hx, hb, hml, hown, hts⟩ (k_X2_requireRoomForRevision l hlt G S (rc := rc) hrc (by omega)) (cwV 0 hts gX2_commit_X2_requireRoomForRevision rfl rfl rfl (by decide +kernel) ⟨Nat.le_of_ble_eq_true rfl, Nat.le_of_ble_eq_true rfl⟩) ⟨cP_blind, c_recv hW hK (k := 139) (ci := 2) cw_O rfl, cP_at hW hK hS⟩ rfl rfl hl.1 rfl (lv_room (Nat.le_of_ble_eq_true rfl)) dX2_commit_42 ⟨Nat.le_of_ble_eq_true rfl, Nat.le_of_ble_eq_true rfl⟩) hout hlocks (fun E hE => thr_of (k := 3) (by unfold cdCommit; (try simp only [cn_i_2, cb1]); rw [if_pos (isP_nI hi_2), if_neg h_7, if_neg (ne_true_of_eq_false c_28), if_neg (by have := hE.2; omega)]) hE.1 (by decide)) (Nat.le_of_ble_eq_true rfl) (Nat.le_of_ble_eq_true rfl) (fun h_42 => ?_)
    refine lv_aload_n hx hb dX2_commit_45 rfl (lv_at hl 2 rfl) ?_
    refine lv_aload_n hx hb dX2_commit_46 rfl (lv_at hl 1 rfl) ?_
    refine lv_aload_n hx hb dX2_commit_47 rfl (lv_at hl 2 rfl) ?_
    refine lv_iload_n hx hb dX2_commit_48 rfl (lv_at hl 0 rfl) ?_
    refine pv_l (va_runV (As := [.int (nI b1)]) (rest := [.ref (gA G (129 + 5 * i_2)), .ref (gA G 139)]) ⟨hx, hb, hml, hown, hts⟩ (k_X2_upTo l G S (r0 := b1) (by omega)) (cwV 1 hts gX2_commit_X2_upTo rfl rfl rfl (by decide +kernel) ⟨Nat.le_of_ble_eq_true rfl, Nat.le_of_ble_eq_true rfl⟩) ⟨cP_blind, c_recv hW hK (k := 139) (ci := 2) cw_O rfl, cP_at hW hK hS⟩ rfl rfl hl.1 rfl (lv_room (Nat.le_of_ble_eq_true rfl)) dX2_commit_49 ⟨Nat.le_of_ble_eq_true rfl, Nat.le_of_ble_eq_true rfl⟩) (fun r_4 hr_4 => ?_)
    have hr_4 : r_4 = S.2 141 b1 ||| b64 b1 := hr_4
    subst hr_4
    refine lv_aload_n hx hb dX2_commit_52 rfl (lv_at hl 1 rfl) ?_
    refine va_get (D := gD G) (ci := 0) (v := .ref (gA G (3 * (41 + i_2)))) (C := RX0) (T := TX0) (N := 10) hx hb hts inX0 hown hK.1 hW (129 + 5 * i_2) (cw_P (i := i_2) (by omega)) rfl 3 (by decide) (hts (.fieldLink RX2 56 "MarkedTrees$Peer" "workspace" "LMarkedTrees$Tree;") (by decide +kernel)) (fun _ h9 => h9) rfl dX2_commit_53 ?_
    refine ev_i (va_runV (As := [.ref (gA G (129 + 5 * i_2)), .long (S.2 141 b1 ||| b64 b1), .ref (gA G (3 * (41 + i_2)))]) (rest := []) ⟨hx, hb, hml, hown, hts⟩ (k_X2_makeRevision l G S s.heap.size (rc := rc) hrc (by omega) (i := i_2) (by omega) (S.2 141 b1 ||| b64 b1) (t := 41 + i_2) (by omega)) (cwV 3 hts gX2_commit_X2_makeRevision rfl rfl rfl (by decide +kernel) ⟨Nat.le_of_ble_eq_true rfl, Nat.le_of_ble_eq_true rfl⟩) ⟨cQ_blind, c_recv hW hK (k := 139) (ci := 2) cw_O rfl, cQ_at hW hK hS⟩ rfl rfl hl.1 rfl (lv_room (Nat.le_of_ble_eq_true rfl)) dX2_commit_56 ⟨Nat.le_of_ble_eq_true rfl, Nat.le_of_ble_eq_true rfl⟩) hS (fun r_6 S_5 t9 H locs ht9 hS_5 hW hS => ?_)
    have hW : cW G S_5 H := ht9 ▸ hW
    obtain ⟨rfl, e9_S_5⟩ := hS_5
    refine lv_istore (lv' := [(4, .int (nI rc)), (3, .int (nI b1)), (2, .ref (gA G (129 + 5 * i_2))), (0, .ref (gA G 139)), (1, .int (nI i_2))]) hx hb dX2_commit_59 hl (by decide) rfl (fun ls hl => ?_)
    have hnc_1 : S_5.1 139 7 = nI nc := by rw [e9_S_5, mrS_139 _ _ _ _ _ (by omega)]; exact hnc
    refine lv_aload_n hx hb dX2_commit_61 rfl (lv_at hl 3 rfl) ?_
    refine lv_iload hx hb dX2_commit_62 (lv_at hl 0 rfl) ?_
    refine lv_iload_n hx hb dX2_commit_64 rfl (lv_at hl 1 rfl) ?_
    refine ev_v (va_runV (As := [.int (nI rc), .int (nI b1)]) (rest := []) ⟨hx, hb, hml, hown, hts⟩ (k_X2_markChanges l G S_5 H.size (nc := nc) hnc_1 (by omega) (by omega) (r0 := rc) (b0 := b1) (by omega) (by omega)) (cwV 2 hts gX2_commit_X2_markChanges rfl rfl rfl (by decide +kernel) ⟨Nat.le_of_ble_eq_true rfl, Nat.le_of_ble_eq_true rfl⟩) ⟨cQ_blind, c_recv hW hK (k := 139) (ci := 2) cw_O rfl, cQ_at hW hK hS⟩ rfl rfl hl.1 rfl (lv_room (Nat.le_of_ble_eq_true rfl)) dX2_commit_65 ⟨Nat.le_of_ble_eq_true rfl, Nat.le_of_ble_eq_true rfl⟩) hS (fun S_7 t9 H locs ht9 hS_7 hW hS => ?_)
    have hW : cW G S_7 H := ht9 ▸ hW
    refine lv_aload_n hx hb dX2_commit_68 rfl (lv_at hl 2 rfl) ?_
    refine lv_iload hx hb dX2_commit_69 (lv_at hl 0 rfl) ?_
    refine va_put (D := gD G) (ci := 0) (v := .int (nI rc)) (ty := .int) (C := RX0) (T := TX0) (N := 10) hx hb hts inX0 tyX0 tyX0_ok nmX0 hown hK.1 hW (wl_D hK.2.1) hS (129 + 5 * i_2) (cw_P (i := i_2) (by omega)) rfl 4 (by decide) (hts (.fieldLink RX2 63 "MarkedTrees$Peer" "base" "I") (by decide +kernel)) (fun _ h9 => h9) rfl (by decide +kernel) rfl rfl (Nat.le_of_ble_eq_true rfl) dX2_commit_71 (fun H locs hW _ hS => ?_)
    have hW : cW G (s1 S_7 (129 + 5 * i_2) 4 (nI rc)) H := cp_P_4 (by omega) hW
    obtain ⟨S_8, eS_8⟩ : ∃ z, z = s1 S_7 (129 + 5 * i_2) 4 (nI rc) := ⟨_, rfl⟩
    rw [← eS_8] at hW
    refine lv_iload hx hb dX2_commit_74 (lv_at hl 0 rfl) ?_
    refine vx_ret ?_
    refine W.widen (k := 8) (n := 48) (by omega) (by omega) ?_
    exact W.iret (v := nI rc) hx hb hr (fun t9 ht9 _ => ⟨⟨_, S_8, rfl, ⟨(by unfold cdCommit; (try simp only [cn_i_2, cb1]); rw [if_pos (isP_nI hi_2), if_neg h_7, if_neg (ne_true_of_eq_false c_28), if_pos h_42]), rfl, by (try simp only [cn_i_2, cb1]); subst_vars; rfl⟩, (show cW G S_8 t9.heap by rw [ht9]; exact hW)⟩, hS.F ht9⟩) hS.2.2 dX2_commit_76
  · exact tv_throw (text := "the tree is that of the base") hx hb hlt hown hK hout hlocks (hl.1.trans hml.symm) fit_S at_Sg at_S0 (by decide) (hts (.classLink RX2 93 eS) (by decide +kernel)) (hts (.initialized eS) (by decide +kernel)) hatS (by decide) (thr_of (k := 3) (by unfold cdCommit; (try simp only [cn_i_2, cb1]); rw [if_pos (isP_nI hi_2), if_neg h_7, if_pos c_28]) rfl (by decide)) ⟨Nat.le_of_ble_eq_true rfl, Nat.le_of_ble_eq_true rfl, Nat.le_of_ble_eq_true rfl, Nat.le_of_ble_eq_true rfl, Nat.le_of_ble_eq_true rfl, Nat.le_of_ble_eq_true rfl⟩ dX2_commit_31 dX2_commit_34 dX2_commit_35 dX2_commit_37 dX2_commit_40

set_option maxHeartbeats 4000000 in
set_option maxRecDepth 100000 in
theorem k_X2_decide (l : Launch) (hlt : l.stackTraces = false) (G : GT) (S : SS) (sz : Nat) {nc : Nat} (hnc : S.1 139 7 = nI nc) (h16 : nc ≤ 16) (x y z w : Int32) : vx_Met l yX2_decide wsX2_decide ({ frames := 7, cells := 8, slots := 48, locals := 103 } : Room) (va_Pc [.ref (gA G 139), .int x, .int y, .int z, .int w] (fun U => U.heap.size = sz ∧ cP G S U)) (va_Qv (fun S' => cdDecide nc x y z w = 0 ∧ S' = s1 S (131 + 5 * cn x) (cn y * 3 + cn z) w) (cB G) (gF G sz)) (xT (fun E => E = eX (cdDecide nc x y z w) ∧ ¬ cdDecide nc x y z w = 0)) 8 48 (gF G sz) := by
  refine vx_ofW (cc := cX2_decide) (maxL := 6) (ret := none) (by decide) rfl ?_
  intro p e s m args below meth c s₁ B hml hout hv
  obtain ⟨rfl, hsz, hW, hK⟩ := hv
  subst hsz
  have hx := B.exec
  have hb := B.bytes
  have hr := B.returns
  have hts := atoms_spec (ws := wsX2_decide) B.pre
  have hown : s.vm.findClass RX2 = some m.cls := findClass_of_methodNamed B.named
  have hlocks := B.notSynchronized
  have hS : va_S (gF G s.heap.size) s.heap s.heap [] := va_S.rf
  have inX0 : ∀ w ∈ u_ws RX0 TX0 10, w ∈ wsX2_decide := by decide +kernel
  have hatA : ∀ w ∈ (vx_atS RX2 90 eA eU).filter goodWord, w.before _ s = true := fun w hw => hts w ((by decide +kernel : ∀ w ∈ (vx_atS RX2 90 eA eU).filter goodWord, w ∈ wsX2_decide) w hw)
  have hl := lv_entry ([.ref (gA G 139), .int x, .int y, .int z, .int w]) (n := 6) (Nat.le_of_ble_eq_true rfl)
  rw [lg_entry_eq]
  generalize (lg_sl ([.ref (gA G 139), .int x, .int y, .int z, .int w]) ++ List.replicate (6 - (lg_sl ([.ref (gA G 139), .int x, .int y, .int z, .int w])).length) Slot.unset).toArray = ls at hl ⊢
  have hl : lv_has ls 6 [(0, .ref (gA G 139)), (1, .int x), (2, .int y), (3, .int z), (4, .int w)] := hl
  refine lv_aload_n hx hb dX2_decide_0 rfl (lv_at hl 0 rfl) ?_
  refine lv_iload_n hx hb dX2_decide_1 rfl (lv_at hl 1 rfl) ?_
  refine tv_r (vx_runV (As := [.int x]) (rest := []) ⟨hx, hb, hml, hown, hts⟩ (k_X2_peerOf l hlt G S x) (cwV 1 hts gX2_decide_X2_peerOf rfl rfl rfl (by decide +kernel) ⟨Nat.le_of_ble_eq_true rfl, Nat.le_of_ble_eq_true rfl⟩) ⟨cP_blind, c_recv hW hK (k := 139) (ci := 2) cw_O rfl, cP_at hW hK hS⟩ rfl rfl hl.1 rfl (lv_room (Nat.le_of_ble_eq_true rfl)) dX2_decide_2 ⟨Nat.le_of_ble_eq_true rfl, Nat.le_of_ble_eq_true rfl⟩) hout hlocks (fun E hE => thr_of (k := 1) (by unfold cdDecide; rw [if_neg (isP_no hE.2)]) hE.1 (by decide)) (Nat.le_of_ble_eq_true rfl) (Nat.le_of_ble_eq_true rfl) (fun k_1 h_2 => ?_)
  obtain ⟨i_2, hi_2, rfl, rfl⟩ := h_2
  have cn_i_2 : cn (nI i_2) = i_2 := cn_nI (by omega)
  refine lv_astore (lv' := [(5, .ref (gA G (129 + 5 * i_2))), (0, .ref (gA G 139)), (1, .int (nI i_2)), (2, .int y), (3, .int z), (4, .int w)]) hx hb dX2_decide_5 hl (by decide) rfl (fun ls hl => ?_)
  refine lv_aload_n hx hb dX2_decide_7 rfl (lv_at hl 1 rfl) ?_
  refine lv_iload_n hx hb dX2_decide_8 rfl (lv_at hl 3 rfl) ?_
  refine tv_v (vx_runV (As := [.int y]) (rest := []) ⟨hx, hb, hml, hown, hts⟩ (k_X2_requireAdded l hlt G S (nc := nc) hnc (by omega) y) (cwV 1 hts gX2_decide_X2_requireAdded rfl rfl rfl (by decide +kernel) ⟨Nat.le_of_ble_eq_true rfl, Nat.le_of_ble_eq_true rfl⟩) ⟨cP_blind, c_recv hW hK (k := 139) (ci := 2) cw_O rfl, cP_at hW hK hS⟩ rfl rfl hl.1 rfl (lv_room (Nat.le_of_ble_eq_true rfl)) dX2_decide_9 ⟨Nat.le_of_ble_eq_true rfl, Nat.le_of_ble_eq_true rfl⟩) hout hlocks (fun E hE => thr_of (k := 1) (by unfold cdDecide; (try simp only [cn_i_2]); rw [if_pos (isP_nI hi_2), if_neg (fun h9 => hE.2 ((inB_iff (by omega)).mp h9))]) hE.1 (by decide)) (Nat.le_of_ble_eq_true rfl) (Nat.le_of_ble_eq_true rfl) (fun h_9 => ?_)
  obtain ⟨n_3, hn_3, rfl⟩ := h_9
  have cn_n_3 : cn (nI n_3) = n_3 := cn_nI (by omega)
  refine lv_iload_n hx hb dX2_decide_12 rfl (lv_at hl 3 rfl) ?_
  refine tv_v (vx_runS (As := [.int (nI n_3)]) (rest := []) ⟨hx, hb, hml, hown, hts⟩ (k_X2_requireNotRoot l hlt G S (nI n_3)) (va_cwS 1 hts gX2_decide_X2_requireNotRoot rfl rfl rfl (by decide +kernel) ⟨Nat.le_of_ble_eq_true rfl, Nat.le_of_ble_eq_true rfl⟩) ⟨cP_blind, cP_at hW hK hS⟩ rfl rfl hl.1 rfl (lv_room (Nat.le_of_ble_eq_true rfl)) dX2_decide_13 ⟨Nat.le_of_ble_eq_true rfl, Nat.le_of_ble_eq_true rfl⟩) hout hlocks (fun E hE => thr_of (k := 2) (by unfold cdDecide; (try simp only [cn_i_2, cn_n_3]); rw [if_pos (isP_nI hi_2), if_pos (inB_nI hn_3 (by omega)), if_pos hE.2]) hE.1 (by decide)) (Nat.le_of_ble_eq_true rfl) (Nat.le_of_ble_eq_true rfl) (fun h_13 => ?_)
  refine lv_iload_n hx hb dX2_decide_16 rfl (lv_at hl 4 rfl) ?_
  refine tv_v (vx_runS (As := [.int z]) (rest := []) ⟨hx, hb, hml, hown, hts⟩ (k_X2_requireScalar l hlt G S z) (va_cwS 1 hts gX2_decide_X2_requireScalar rfl rfl rfl (by decide +kernel) ⟨Nat.le_of_ble_eq_true rfl, Nat.le_of_ble_eq_true rfl⟩) ⟨cP_blind, cP_at hW hK hS⟩ rfl rfl hl.1 rfl (lv_room (Nat.le_of_ble_eq_true rfl)) dX2_decide_17 ⟨Nat.le_of_ble_eq_true rfl, Nat.le_of_ble_eq_true rfl⟩) hout hlocks (fun E hE => thr_of (k := 2) (by unfold cdDecide; (try simp only [cn_i_2, cn_n_3]); rw [if_pos (isP_nI hi_2), if_pos (inB_nI hn_3 (by omega)), if_neg h_13, if_neg (fun h9 => hE.2 ((inB_iff (by decide)).mp h9))]) hE.1 (by decide)) (Nat.le_of_ble_eq_true rfl) (Nat.le_of_ble_eq_true rfl) (fun h_17 => ?_)
  obtain ⟨n_4, hn_4, rfl⟩ := h_17
  have cn_n_4 : cn (nI n_4) = n_4 := cn_nI (by omega)
  refine lv_iload hx hb dX2_decide_20 (lv_at hl 5 rfl) ?_
  refine lv_if_eq (tgt := 47) hx hb dX2_decide_22 (by decide) (fun c_22 => ?_) (fun c_22 => ?_)
  · refine lv_aload hx hb dX2_decide_47 (lv_at hl 0 rfl) ?_
    refine va_get (D := gD G) (ci := 0) (v := .ref (gA G (131 + 5 * i_2))) (C := RX0) (T := TX0) (N := 10) hx hb hts inX0 hown hK.1 hW (129 + 5 * i_2) (cw_P (i := i_2) (by omega)) rfl 5 (by decide) (hts (.fieldLink RX2 165 "MarkedTrees$Peer" "decisions" "[I") (by decide +kernel)) (fun _ h9 => h9) rfl dX2_decide_49 ?_
    refine lv_iload_n hx hb dX2_decide_52 rfl (lv_at hl 3 rfl) ?_
    refine lv_iload_n hx hb dX2_decide_53 rfl (lv_at hl 4 rfl) ?_
    refine pv_i (va_runS (As := [.int (nI n_3), .int (nI n_4)]) (rest := [.ref (gA G (131 + 5 * i_2))]) ⟨hx, hb, hml, hown, hts⟩ (k_X2_slot l n_3 n_4) (va_cwS 2 hts gX2_decide_X2_slot rfl rfl rfl (by decide +kernel) ⟨Nat.le_of_ble_eq_true rfl, Nat.le_of_ble_eq_true rfl⟩) ⟨(fun _ _ _ _ h => h), fun U _ _ => ⟨rfl, trivial⟩⟩ rfl rfl hl.1 rfl (lv_room (Nat.le_of_ble_eq_true rfl)) dX2_decide_54 ⟨Nat.le_of_ble_eq_true rfl, Nat.le_of_ble_eq_true rfl⟩) (fun r_5 hr_5 => ?_)
    have hr_5 : r_5 = nI (n_3 * 3 + n_4) := hr_5
    subst hr_5
    refine lv_iload hx hb dX2_decide_57 (lv_at hl 5 rfl) ?_
    refine nv_iast hx hb hK.1 hW (wl_D hK.2.1) hS (131 + 5 * i_2) 0 (cw_D (i := i_2) (by omega)) rfl (i := n_3 * 3 + n_4) (by omega) (by decide) dX2_decide_59 (fun H locs hW hS => ?_)
    have hW : cW G (s1 S (131 + 5 * i_2) (n_3 * 3 + n_4) w) H := cp_D (by omega) hW
    obtain ⟨S_6, eS_6⟩ : ∃ z, z = s1 S (131 + 5 * i_2) (n_3 * 3 + n_4) w := ⟨_, rfl⟩
    rw [← eS_6] at hW
    refine vx_ret ?_
    refine W.widen (k := 8) (n := 48) (by omega) (by omega) ?_
    exact W.vret hx hb hr (fun t9 ht9 _ => ⟨⟨S_6, rfl, ⟨(by unfold cdDecide; (try simp only [cn_i_2, cn_n_3, cn_n_4]); rw [if_pos (isP_nI hi_2), if_pos (inB_nI hn_3 (by omega)), if_neg h_13, if_pos (inB_nI hn_4 (by omega)), if_pos (Or.inl c_22)]), by (try simp only [cn_i_2, cn_n_3, cn_n_4]); exact eS_6⟩, (show cW G S_6 t9.heap by rw [ht9]; exact hW)⟩, hS.F ht9⟩) hS.2.2 dX2_decide_60
  · refine lv_iload hx hb dX2_decide_25 (lv_at hl 5 rfl) ?_
    refine lv_iconst (v := nI 1) hx hb dX2_decide_27 (by decide) ?_
    refine lv_icmp_eq (tgt := 47) hx hb dX2_decide_28 (by decide) (fun c_28 => ?_) (fun c_28 => ?_)
    · refine lv_aload hx hb dX2_decide_47 (lv_at hl 0 rfl) ?_
      refine va_get (D := gD G) (ci := 0) (v := .ref (gA G (131 + 5 * i_2))) (C := RX0) (T := TX0) (N := 10) hx hb hts inX0 hown hK.1 hW (129 + 5 * i_2) (cw_P (i := i_2) (by omega)) rfl 5 (by decide) (hts (.fieldLink RX2 165 "MarkedTrees$Peer" "decisions" "[I") (by decide +kernel)) (fun _ h9 => h9) rfl dX2_decide_49 ?_
      refine lv_iload_n hx hb dX2_decide_52 rfl (lv_at hl 3 rfl) ?_
      refine lv_iload_n hx hb dX2_decide_53 rfl (lv_at hl 4 rfl) ?_
      refine pv_i (va_runS (As := [.int (nI n_3), .int (nI n_4)]) (rest := [.ref (gA G (131 + 5 * i_2))]) ⟨hx, hb, hml, hown, hts⟩ (k_X2_slot l n_3 n_4) (va_cwS 2 hts gX2_decide_X2_slot rfl rfl rfl (by decide +kernel) ⟨Nat.le_of_ble_eq_true rfl, Nat.le_of_ble_eq_true rfl⟩) ⟨(fun _ _ _ _ h => h), fun U _ _ => ⟨rfl, trivial⟩⟩ rfl rfl hl.1 rfl (lv_room (Nat.le_of_ble_eq_true rfl)) dX2_decide_54 ⟨Nat.le_of_ble_eq_true rfl, Nat.le_of_ble_eq_true rfl⟩) (fun r_7 hr_7 => ?_)
      have hr_7 : r_7 = nI (n_3 * 3 + n_4) := hr_7
      subst hr_7
      refine lv_iload hx hb dX2_decide_57 (lv_at hl 5 rfl) ?_
      refine nv_iast hx hb hK.1 hW (wl_D hK.2.1) hS (131 + 5 * i_2) 0 (cw_D (i := i_2) (by omega)) rfl (i := n_3 * 3 + n_4) (by omega) (by decide) dX2_decide_59 (fun H locs hW hS => ?_)
      have hW : cW G (s1 S (131 + 5 * i_2) (n_3 * 3 + n_4) w) H := cp_D (by omega) hW
      obtain ⟨S_8, eS_8⟩ : ∃ z, z = s1 S (131 + 5 * i_2) (n_3 * 3 + n_4) w := ⟨_, rfl⟩
      rw [← eS_8] at hW
      refine vx_ret ?_
      refine W.widen (k := 8) (n := 48) (by omega) (by omega) ?_
      exact W.vret hx hb hr (fun t9 ht9 _ => ⟨⟨S_8, rfl, ⟨(by unfold cdDecide; (try simp only [cn_i_2, cn_n_3, cn_n_4]); rw [if_pos (isP_nI hi_2), if_pos (inB_nI hn_3 (by omega)), if_neg h_13, if_pos (inB_nI hn_4 (by omega)), if_pos (Or.inr (Or.inl c_28))]), by (try simp only [cn_i_2, cn_n_3, cn_n_4]); exact eS_8⟩, (show cW G S_8 t9.heap by rw [ht9]; exact hW)⟩, hS.F ht9⟩) hS.2.2 dX2_decide_60
    · refine lv_iload hx hb dX2_decide_31 (lv_at hl 5 rfl) ?_
      refine lv_iconst (v := (-1)) hx hb dX2_decide_33 (by decide) ?_
      refine lv_icmp_eq (tgt := 47) hx hb dX2_decide_34 (by decide) (fun c_34 => ?_) (fun c_34 => ?_)
      · refine lv_aload hx hb dX2_decide_47 (lv_at hl 0 rfl) ?_
        refine va_get (D := gD G) (ci := 0) (v := .ref (gA G (131 + 5 * i_2))) (C := RX0) (T := TX0) (N := 10) hx hb hts inX0 hown hK.1 hW (129 + 5 * i_2) (cw_P (i := i_2) (by omega)) rfl 5 (by decide) (hts (.fieldLink RX2 165 "MarkedTrees$Peer" "decisions" "[I") (by decide +kernel)) (fun _ h9 => h9) rfl dX2_decide_49 ?_
        refine lv_iload_n hx hb dX2_decide_52 rfl (lv_at hl 3 rfl) ?_
        refine lv_iload_n hx hb dX2_decide_53 rfl (lv_at hl 4 rfl) ?_
        refine pv_i (va_runS (As := [.int (nI n_3), .int (nI n_4)]) (rest := [.ref (gA G (131 + 5 * i_2))]) ⟨hx, hb, hml, hown, hts⟩ (k_X2_slot l n_3 n_4) (va_cwS 2 hts gX2_decide_X2_slot rfl rfl rfl (by decide +kernel) ⟨Nat.le_of_ble_eq_true rfl, Nat.le_of_ble_eq_true rfl⟩) ⟨(fun _ _ _ _ h => h), fun U _ _ => ⟨rfl, trivial⟩⟩ rfl rfl hl.1 rfl (lv_room (Nat.le_of_ble_eq_true rfl)) dX2_decide_54 ⟨Nat.le_of_ble_eq_true rfl, Nat.le_of_ble_eq_true rfl⟩) (fun r_9 hr_9 => ?_)
        have hr_9 : r_9 = nI (n_3 * 3 + n_4) := hr_9
        subst hr_9
        refine lv_iload hx hb dX2_decide_57 (lv_at hl 5 rfl) ?_
        refine nv_iast hx hb hK.1 hW (wl_D hK.2.1) hS (131 + 5 * i_2) 0 (cw_D (i := i_2) (by omega)) rfl (i := n_3 * 3 + n_4) (by omega) (by decide) dX2_decide_59 (fun H locs hW hS => ?_)
        have hW : cW G (s1 S (131 + 5 * i_2) (n_3 * 3 + n_4) w) H := cp_D (by omega) hW
        obtain ⟨S_10, eS_10⟩ : ∃ z, z = s1 S (131 + 5 * i_2) (n_3 * 3 + n_4) w := ⟨_, rfl⟩
        rw [← eS_10] at hW
        refine vx_ret ?_
        refine W.widen (k := 8) (n := 48) (by omega) (by omega) ?_
        exact W.vret hx hb hr (fun t9 ht9 _ => ⟨⟨S_10, rfl, ⟨(by unfold cdDecide; (try simp only [cn_i_2, cn_n_3, cn_n_4]); rw [if_pos (isP_nI hi_2), if_pos (inB_nI hn_3 (by omega)), if_neg h_13, if_pos (inB_nI hn_4 (by omega)), if_pos (Or.inr (Or.inr c_34))]), by (try simp only [cn_i_2, cn_n_3, cn_n_4]); exact eS_10⟩, (show cW G S_10 t9.heap by rw [ht9]; exact hW)⟩, hS.F ht9⟩) hS.2.2 dX2_decide_60
      · exact tv_throw (text := "no such side") hx hb hlt hown hK hout hlocks (hl.1.trans hml.symm) fit_A at_Ag at_A0 (by decide) (hts (.classLink RX2 86 eA) (by decide +kernel)) (hts (.initialized eA) (by decide +kernel)) hatA (by decide) (thr_of (k := 2) (by unfold cdDecide; (try simp only [cn_i_2, cn_n_3, cn_n_4]); rw [if_pos (isP_nI hi_2), if_pos (inB_nI hn_3 (by omega)), if_neg h_13, if_pos (inB_nI hn_4 (by omega)), if_neg (fun h9 => h9.elim c_22 (fun h9 => h9.elim c_28 c_34))]) rfl (by decide)) ⟨Nat.le_of_ble_eq_true rfl, Nat.le_of_ble_eq_true rfl, Nat.le_of_ble_eq_true rfl, Nat.le_of_ble_eq_true rfl, Nat.le_of_ble_eq_true rfl, Nat.le_of_ble_eq_true rfl⟩ dX2_decide_37 dX2_decide_40 dX2_decide_41 dX2_decide_43 dX2_decide_46

set_option maxHeartbeats 4000000 in
set_option maxRecDepth 100000 in
theorem k_X2_bury (l : Launch) (hlt : l.stackTraces = false) (G : GT) (S : SS) (sz : Nat) {nc : Nat} (hnc : S.1 139 7 = nI nc) (h16 : nc ≤ 16) (x y : Int32) (db : Bool) : vx_Met l yX2_bury wsX2_bury ({ frames := 7, cells := 8, slots := 48, locals := 103 } : Room) (va_Pc [.ref (gA G 139), .int x, .int y, .int (bI db)] (fun U => U.heap.size = sz ∧ cP G S U)) (va_Qv (fun S' => cdBury nc x y = 0 ∧ S' = doBury S (cn x) (cn y) db) (cB G) (gF G sz)) (xT (fun E => E = eX (cdBury nc x y) ∧ ¬ cdBury nc x y = 0)) 8 48 (gF G sz) := by
  refine vx_ofW (cc := cX2_bury) (maxL := 5) (ret := none) (by decide) rfl ?_
  intro p e s m args below meth c s₁ B hml hout hv
  obtain ⟨rfl, hsz, hW, hK⟩ := hv
  subst hsz
  have hx := B.exec
  have hb := B.bytes
  have hr := B.returns
  have hts := atoms_spec (ws := wsX2_bury) B.pre
  have hown : s.vm.findClass RX2 = some m.cls := findClass_of_methodNamed B.named
  have hlocks := B.notSynchronized
  have hS : va_S (gF G s.heap.size) s.heap s.heap [] := va_S.rf
  have inX0 : ∀ w ∈ u_ws RX0 TX0 10, w ∈ wsX2_bury := by decide +kernel
  have hl := lv_entry ([.ref (gA G 139), .int x, .int y, .int (bI db)]) (n := 5) (Nat.le_of_ble_eq_true rfl)
  rw [lg_entry_eq]
  generalize (lg_sl ([.ref (gA G 139), .int x, .int y, .int (bI db)]) ++ List.replicate (5 - (lg_sl ([.ref (gA G 139), .int x, .int y, .int (bI db)])).length) Slot.unset).toArray = ls at hl ⊢
  have hl : lv_has ls 5 [(0, .ref (gA G 139)), (1, .int x), (2, .int y), (3, .int (bI db))] := hl
  refine lv_aload_n hx hb dX2_bury_0 rfl (lv_at hl 0 rfl) ?_
  refine lv_iload_n hx hb dX2_bury_1 rfl (lv_at hl 1 rfl) ?_
  refine tv_r (vx_runV (As := [.int x]) (rest := []) ⟨hx, hb, hml, hown, hts⟩ (k_X2_peerOf l hlt G S x) (cwV 1 hts gX2_bury_X2_peerOf rfl rfl rfl (by decide +kernel) ⟨Nat.le_of_ble_eq_true rfl, Nat.le_of_ble_eq_true rfl⟩) ⟨cP_blind, c_recv hW hK (k := 139) (ci := 2) cw_O rfl, cP_at hW hK hS⟩ rfl rfl hl.1 rfl (lv_room (Nat.le_of_ble_eq_true rfl)) dX2_bury_2 ⟨Nat.le_of_ble_eq_true rfl, Nat.le_of_ble_eq_true rfl⟩) hout hlocks (fun E hE => thr_of (k := 1) (by unfold cdBury; rw [if_neg (isP_no hE.2)]) hE.1 (by decide)) (Nat.le_of_ble_eq_true rfl) (Nat.le_of_ble_eq_true rfl) (fun k_1 h_2 => ?_)
  obtain ⟨i_2, hi_2, rfl, rfl⟩ := h_2
  have cn_i_2 : cn (nI i_2) = i_2 := cn_nI (by omega)
  refine lv_astore (lv' := [(4, .ref (gA G (129 + 5 * i_2))), (0, .ref (gA G 139)), (1, .int (nI i_2)), (2, .int y), (3, .int (bI db))]) hx hb dX2_bury_5 hl (by decide) rfl (fun ls hl => ?_)
  refine lv_aload_n hx hb dX2_bury_7 rfl (lv_at hl 1 rfl) ?_
  refine lv_iload_n hx hb dX2_bury_8 rfl (lv_at hl 3 rfl) ?_
  refine tv_v (vx_runV (As := [.int y]) (rest := []) ⟨hx, hb, hml, hown, hts⟩ (k_X2_requireAdded l hlt G S (nc := nc) hnc (by omega) y) (cwV 1 hts gX2_bury_X2_requireAdded rfl rfl rfl (by decide +kernel) ⟨Nat.le_of_ble_eq_true rfl, Nat.le_of_ble_eq_true rfl⟩) ⟨cP_blind, c_recv hW hK (k := 139) (ci := 2) cw_O rfl, cP_at hW hK hS⟩ rfl rfl hl.1 rfl (lv_room (Nat.le_of_ble_eq_true rfl)) dX2_bury_9 ⟨Nat.le_of_ble_eq_true rfl, Nat.le_of_ble_eq_true rfl⟩) hout hlocks (fun E hE => thr_of (k := 1) (by unfold cdBury; (try simp only [cn_i_2]); rw [if_pos (isP_nI hi_2), if_neg (fun h9 => hE.2 ((inB_iff (by omega)).mp h9))]) hE.1 (by decide)) (Nat.le_of_ble_eq_true rfl) (Nat.le_of_ble_eq_true rfl) (fun h_9 => ?_)
  obtain ⟨n_3, hn_3, rfl⟩ := h_9
  have cn_n_3 : cn (nI n_3) = n_3 := cn_nI (by omega)
  refine lv_iload_n hx hb dX2_bury_12 rfl (lv_at hl 3 rfl) ?_
  refine tv_v (vx_runS (As := [.int (nI n_3)]) (rest := []) ⟨hx, hb, hml, hown, hts⟩ (k_X2_requireNotRoot l hlt G S (nI n_3)) (va_cwS 1 hts gX2_bury_X2_requireNotRoot rfl rfl rfl (by decide +kernel) ⟨Nat.le_of_ble_eq_true rfl, Nat.le_of_ble_eq_true rfl⟩) ⟨cP_blind, cP_at hW hK hS⟩ rfl rfl hl.1 rfl (lv_room (Nat.le_of_ble_eq_true rfl)) dX2_bury_13 ⟨Nat.le_of_ble_eq_true rfl, Nat.le_of_ble_eq_true rfl⟩) hout hlocks (fun E hE => thr_of (k := 2) (by unfold cdBury; (try simp only [cn_i_2, cn_n_3]); rw [if_pos (isP_nI hi_2), if_pos (inB_nI hn_3 (by omega)), if_pos hE.2]) hE.1 (by decide)) (Nat.le_of_ble_eq_true rfl) (Nat.le_of_ble_eq_true rfl) (fun h_13 => ?_)
  refine lv_iload_n hx hb dX2_bury_16 rfl (lv_at hl 4 rfl) ?_
  refine bv_if_eq (b := db) (tgt := 36) hx hb dX2_bury_17 (by decide) (fun c_17 => ?_) (fun c_17 => ?_)
  · refine lv_aload hx hb dX2_bury_36 (lv_at hl 0 rfl) ?_
    refine lv_dup hx hb dX2_bury_38 rfl ?_
    refine va_get (D := gD G) (ci := 0) (v := .int (S.1 (129 + 5 * i_2) 6)) (C := RX0) (T := TX0) (N := 10) hx hb hts inX0 hown hK.1 hW (129 + 5 * i_2) (cw_P (i := i_2) (by omega)) rfl 6 (by decide) (hts (.fieldLink RX2 171 "MarkedTrees$Peer" "buried" "I") (by decide +kernel)) (fun _ h9 => h9) rfl dX2_bury_39 ?_
    refine lv_iconst (v := nI 1) hx hb dX2_bury_42 (by decide) ?_
    refine lv_iload_n hx hb dX2_bury_43 rfl (lv_at hl 3 rfl) ?_
    refine lv_ishl hx hb dX2_bury_44 ?_
    refine lv_iconst (v := (-1)) hx hb dX2_bury_45 (by decide) ?_
    refine lv_ixor hx hb dX2_bury_46 ?_
    refine lv_iand hx hb dX2_bury_47 ?_
    refine va_put (D := gD G) (ci := 0) (v := .int ((S.1 (129 + 5 * i_2) 6) &&& (((nI 1) <<< ((nI n_3) &&& 31)) ^^^ (-1)))) (ty := .int) (C := RX0) (T := TX0) (N := 10) hx hb hts inX0 tyX0 tyX0_ok nmX0 hown hK.1 hW (wl_D hK.2.1) hS (129 + 5 * i_2) (cw_P (i := i_2) (by omega)) rfl 6 (by decide) (hts (.fieldLink RX2 171 "MarkedTrees$Peer" "buried" "I") (by decide +kernel)) (fun _ h9 => h9) rfl (by decide +kernel) rfl rfl (Nat.le_of_ble_eq_true rfl) dX2_bury_48 (fun H locs hW _ hS => ?_)
    have hW : cW G (s1 S (129 + 5 * i_2) 6 ((S.1 (129 + 5 * i_2) 6) &&& (((nI 1) <<< ((nI n_3) &&& 31)) ^^^ (-1)))) H := cp_P_6 (by omega) hW
    obtain ⟨S_4, eS_4⟩ : ∃ z, z = s1 S (129 + 5 * i_2) 6 ((S.1 (129 + 5 * i_2) 6) &&& (((nI 1) <<< ((nI n_3) &&& 31)) ^^^ (-1))) := ⟨_, rfl⟩
    rw [← eS_4] at hW
    refine vx_ret ?_
    refine W.widen (k := 8) (n := 48) (by omega) (by omega) ?_
    exact W.vret hx hb hr (fun t9 ht9 _ => ⟨⟨S_4, rfl, ⟨(by unfold cdBury; (try simp only [cn_i_2, cn_n_3]); rw [if_pos (isP_nI hi_2), if_pos (inB_nI hn_3 (by omega)), if_neg h_13]), by (try simp only [cn_i_2, cn_n_3]); unfold doBury; rw [if_neg (by rw [c_17]; exact Bool.false_ne_true)]; exact eS_4⟩, (show cW G S_4 t9.heap by rw [ht9]; exact hW)⟩, hS.F ht9⟩) hS.2.2 dX2_bury_51
  · refine lv_aload hx hb dX2_bury_20 (lv_at hl 0 rfl) ?_
    refine lv_dup hx hb dX2_bury_22 rfl ?_
    refine va_get (D := gD G) (ci := 0) (v := .int (S.1 (129 + 5 * i_2) 6)) (C := RX0) (T := TX0) (N := 10) hx hb hts inX0 hown hK.1 hW (129 + 5 * i_2) (cw_P (i := i_2) (by omega)) rfl 6 (by decide) (hts (.fieldLink RX2 171 "MarkedTrees$Peer" "buried" "I") (by decide +kernel)) (fun _ h9 => h9) rfl dX2_bury_23 ?_
    refine lv_iconst (v := nI 1) hx hb dX2_bury_26 (by decide) ?_
    refine lv_iload_n hx hb dX2_bury_27 rfl (lv_at hl 3 rfl) ?_
    refine lv_ishl hx hb dX2_bury_28 ?_
    refine lv_ior hx hb dX2_bury_29 ?_
    refine va_put (D := gD G) (ci := 0) (v := .int ((S.1 (129 + 5 * i_2) 6) ||| ((nI 1) <<< ((nI n_3) &&& 31)))) (ty := .int) (C := RX0) (T := TX0) (N := 10) hx hb hts inX0 tyX0 tyX0_ok nmX0 hown hK.1 hW (wl_D hK.2.1) hS (129 + 5 * i_2) (cw_P (i := i_2) (by omega)) rfl 6 (by decide) (hts (.fieldLink RX2 171 "MarkedTrees$Peer" "buried" "I") (by decide +kernel)) (fun _ h9 => h9) rfl (by decide +kernel) rfl rfl (Nat.le_of_ble_eq_true rfl) dX2_bury_30 (fun H locs hW _ hS => ?_)
    have hW : cW G (s1 S (129 + 5 * i_2) 6 ((S.1 (129 + 5 * i_2) 6) ||| ((nI 1) <<< ((nI n_3) &&& 31)))) H := cp_P_6 (by omega) hW
    obtain ⟨S_5, eS_5⟩ : ∃ z, z = s1 S (129 + 5 * i_2) 6 ((S.1 (129 + 5 * i_2) 6) ||| ((nI 1) <<< ((nI n_3) &&& 31))) := ⟨_, rfl⟩
    rw [← eS_5] at hW
    refine lv_goto (tgt := 51) hx hb dX2_bury_33 (by decide) ?_
    refine vx_ret ?_
    refine W.widen (k := 8) (n := 48) (by omega) (by omega) ?_
    exact W.vret hx hb hr (fun t9 ht9 _ => ⟨⟨S_5, rfl, ⟨(by unfold cdBury; (try simp only [cn_i_2, cn_n_3]); rw [if_pos (isP_nI hi_2), if_pos (inB_nI hn_3 (by omega)), if_neg h_13]), by (try simp only [cn_i_2, cn_n_3]); unfold doBury; rw [if_pos c_17]; exact eS_5⟩, (show cW G S_5 t9.heap by rw [ht9]; exact hW)⟩, hS.F ht9⟩) hS.2.2 dX2_bury_51
