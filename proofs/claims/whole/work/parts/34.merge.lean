set_option maxHeartbeats 4000000 in
set_option maxRecDepth 100000 in
theorem k_X2_markChanges (l : Launch) (G : GT) (S : SS) (sz : Nat) {nc : Nat} (hnc : S.1 139 7 = nI nc) (h16 : nc ≤ 16) (h1n : 1 ≤ nc) {r0 b0 : Nat} (hr0 : r0 < 40) (hb0 : b0 < 40) : Met l yX2_markChanges wsX2_markChanges ({ frames := 2, cells := 0, slots := 0, locals := 45 } : Room) (va_Pc [.ref (gA G 139), .int (nI r0), .int (nI b0)] (fun U => U.heap.size = sz ∧ cP G S U)) (va_Qv (fun S' => S' = mcN r0 b0 (nc - 1) 1 S) (cB G) (gF G sz)) 0 0 (gF G sz) := by
  refine Met.ofW (cc := cX2_markChanges) (maxL := 9) (ret := none) (by decide) rfl ?_
  intro p e s m args below meth c s₁ B hml hv
  obtain ⟨rfl, hsz, hW, hK⟩ := hv
  subst hsz
  have hx := B.exec
  have hb := B.bytes
  have hr := B.returns
  have hts := atoms_spec (ws := wsX2_markChanges) B.pre
  have hown : s.vm.findClass RX2 = some m.cls := findClass_of_methodNamed B.named
  have hlocks := B.notSynchronized
  have hS : va_S (gF G s.heap.size) s.heap s.heap [] := va_S.rf
  have inX2 : ∀ w ∈ u_ws RX2 TX2 10, w ∈ wsX2_markChanges := by decide +kernel
  have hl := lv_entry ([.ref (gA G 139), .int (nI r0), .int (nI b0)]) (n := 9) (Nat.le_of_ble_eq_true rfl)
  rw [lg_entry_eq]
  generalize (lg_sl ([.ref (gA G 139), .int (nI r0), .int (nI b0)]) ++ List.replicate (9 - (lg_sl ([.ref (gA G 139), .int (nI r0), .int (nI b0)])).length) Slot.unset).toArray = ls at hl ⊢
  have hl : lv_has ls 9 [(0, .ref (gA G 139)), (1, .int (nI r0)), (2, .int (nI b0))] := hl
  have LP : ∀ (n : Nat) (i : Nat) (Q : SS) (H : Heap) (locs : List Loc), (cW G Q H) → (va_S (gF G s.heap.size) s.heap H locs) → (Q.1 139 7 = nI nc) → (1 ≤ i) → (i + n = nc) → ∀ (ls : Array Slot), lv_has ls 9 [(0, .ref (gA G 139)), (1, .int (nI r0)), (2, .int (nI b0)), (3, .ref (gA G (3 * b0))), (4, .ref (gA G (3 * r0))), (5, .int (nI i))] → W p l e (headSpec wsX2_markChanges ({ frames := 2, cells := 0, slots := 0, locals := 45 } : Room)).room s m ([.ref (gA G 139), .int (nI r0), .int (nI b0)] : List Value).toArray below meth c H locs 0 0 (MQ below (va_Qv (fun S' => S' = mcN r0 b0 n i Q) (cB G) (gF G s.heap.size)) ([.ref (gA G 139), .int (nI r0), .int (nI b0)] : List Value).toArray s 0 0 (gF G s.heap.size)) (F0 m 18 ls []) := by
    intro n
    induction n with
    | zero =>
      intro i Q H locs hW hS hq h1 h2 ls hl
      refine lv_iload hx hb dX2_markChanges_18 (lv_at hl 5 rfl) ?_
      refine lv_aload_n hx hb dX2_markChanges_20 rfl (lv_at hl 0 rfl) ?_
      refine va_get (D := gD G) (ci := 2) (v := .int (nI nc)) (C := RX2) (T := TX2) (N := 10) hx hb hts inX2 hown hK.1 hW 139 cw_O rfl 7 (by decide) (hts (.fieldLink RX2 40 "MarkedTrees" "nodeCount" "I") (by decide +kernel)) (fun _ h9 => h9) (by rw [← hq]; rfl) dX2_markChanges_21 ?_
      refine nv_icmp_ge (tgt := 150) hx hb (by omega) (by omega) dX2_markChanges_24 (by decide) (fun c_24 => ?_) (fun c_24 => ?_)
      · exact W.vret hx hb hr (fun t9 ht9 _ => ⟨⟨Q, rfl, rfl, (show cW G Q t9.heap by rw [ht9]; exact hW)⟩, hS.F ht9⟩) hS.2.2 dX2_markChanges_150
      · exact absurd c_24 (by omega)
    | succ n ih =>
      intro i Q H locs hW hS hq h1 h2 ls hl
      refine lv_iload hx hb dX2_markChanges_18 (lv_at hl 5 rfl) ?_
      refine lv_aload_n hx hb dX2_markChanges_20 rfl (lv_at hl 0 rfl) ?_
      refine va_get (D := gD G) (ci := 2) (v := .int (nI nc)) (C := RX2) (T := TX2) (N := 10) hx hb hts inX2 hown hK.1 hW 139 cw_O rfl 7 (by decide) (hts (.fieldLink RX2 40 "MarkedTrees" "nodeCount" "I") (by decide +kernel)) (fun _ h9 => h9) (by rw [← hq]; rfl) dX2_markChanges_21 ?_
      refine nv_icmp_ge (tgt := 150) hx hb (by omega) (by omega) dX2_markChanges_24 (by decide) (fun c_24 => ?_) (fun c_24 => ?_)
      · exact absurd c_24 (by omega)
      · refine lv_aload hx hb dX2_markChanges_27 (lv_at hl 4 rfl) ?_
        refine lv_iload hx hb dX2_markChanges_29 (lv_at hl 5 rfl) ?_
        refine pv_i (va_runV (As := [.int (nI i)]) (rest := []) ⟨hx, hb, hml, hown, hts⟩ (k_X1_isAlive l G Q (t := r0) (by omega) (nI i)) (cwV 1 hts gX2_markChanges_X1_isAlive rfl rfl rfl (by decide +kernel) ⟨Nat.le_of_ble_eq_true rfl, Nat.le_of_ble_eq_true rfl⟩) ⟨cP_blind, c_recv hW hK (k := (3 * r0)) (ci := 1) (cw_T (t := r0) (by omega)) rfl, cP_at hW hK hS⟩ rfl rfl hl.1 rfl (lv_room (Nat.le_of_ble_eq_true rfl)) dX2_markChanges_31 ⟨Nat.le_of_ble_eq_true rfl, Nat.le_of_ble_eq_true rfl⟩) (fun r_1 hr_1 => ?_)
        rw [aliveB_nI Q r0 (by omega)] at hr_1
        subst hr_1
        refine bv_if_ne (b := ti (Q.1 (3 * r0) 0) i) (tgt := 40) hx hb dX2_markChanges_34 (by decide) (fun c_34 => ?_) (fun c_34 => ?_)
        · refine lv_aload_n hx hb dX2_markChanges_40 rfl (lv_at hl 3 rfl) ?_
          refine lv_iload hx hb dX2_markChanges_41 (lv_at hl 5 rfl) ?_
          refine pv_i (va_runV (As := [.int (nI i)]) (rest := []) ⟨hx, hb, hml, hown, hts⟩ (k_X1_isAlive l G Q (t := b0) (by omega) (nI i)) (cwV 1 hts gX2_markChanges_X1_isAlive rfl rfl rfl (by decide +kernel) ⟨Nat.le_of_ble_eq_true rfl, Nat.le_of_ble_eq_true rfl⟩) ⟨cP_blind, c_recv hW hK (k := (3 * b0)) (ci := 1) (cw_T (t := b0) (by omega)) rfl, cP_at hW hK hS⟩ rfl rfl hl.1 rfl (lv_room (Nat.le_of_ble_eq_true rfl)) dX2_markChanges_43 ⟨Nat.le_of_ble_eq_true rfl, Nat.le_of_ble_eq_true rfl⟩) (fun r_2 hr_2 => ?_)
          rw [aliveB_nI Q b0 (by omega)] at hr_2
          subst hr_2
          refine bv_if_ne (b := ti (Q.1 (3 * b0) 0) i) (tgt := 53) hx hb dX2_markChanges_46 (by decide) (fun c_46 => ?_) (fun c_46 => ?_)
          · refine lv_iconst (v := nI 0) hx hb dX2_markChanges_53 (by decide) ?_
            refine lv_istore (lv' := [(6, .int (nI 0)), (0, .ref (gA G 139)), (1, .int (nI r0)), (2, .int (nI b0)), (3, .ref (gA G (3 * b0))), (4, .ref (gA G (3 * r0))), (5, .int (nI i))]) hx hb dX2_markChanges_54 hl (by decide) rfl (fun ls hl => ?_)
            refine lv_iload hx hb dX2_markChanges_56 (lv_at hl 0 rfl) ?_
            refine lv_if_eq (tgt := 69) hx hb dX2_markChanges_58 (by decide) (fun c_58 => ?_) (fun c_58 => ?_)
            · refine lv_iconst (v := nI 0) hx hb dX2_markChanges_69 (by decide) ?_
              refine lv_istore (lv' := [(7, .int (nI 0)), (6, .int (nI 0)), (0, .ref (gA G 139)), (1, .int (nI r0)), (2, .int (nI b0)), (3, .ref (gA G (3 * b0))), (4, .ref (gA G (3 * r0))), (5, .int (nI i))]) hx hb dX2_markChanges_70 hl (by decide) rfl (fun ls hl => ?_)
              have LQ : ∀ (k : Nat) (w : Nat) (Q2 : SS) (H : Heap) (locs : List Loc), (cW G Q2 H) → (va_S (gF G s.heap.size) s.heap H locs) → (Q2.1 139 7 = nI nc) → (w + k = 3) → ∀ (ls : Array Slot), lv_has ls 9 [(0, .ref (gA G 139)), (1, .int (nI r0)), (2, .int (nI b0)), (3, .ref (gA G (3 * b0))), (4, .ref (gA G (3 * r0))), (5, .int (nI i)), (6, .int (nI 0)), (7, .int (nI w))] → W p l e (headSpec wsX2_markChanges ({ frames := 2, cells := 0, slots := 0, locals := 45 } : Room)).room s m ([.ref (gA G 139), .int (nI r0), .int (nI b0)] : List Value).toArray below meth c H locs 0 0 (MQ below (va_Qv (fun S' => S' = mcN r0 b0 n (i + 1) (mcW r0 b0 i false k w Q2)) (cB G) (gF G s.heap.size)) ([.ref (gA G 139), .int (nI r0), .int (nI b0)] : List Value).toArray s 0 0 (gF G s.heap.size)) (F0 m 72 ls []) := by
                intro k
                induction k with
                | zero =>
                  intro w Q2 H locs hW hS hq2 h3 ls hl
                  refine lv_iload hx hb dX2_markChanges_72 (lv_at hl 7 rfl) ?_
                  refine lv_iconst (v := nI 3) hx hb dX2_markChanges_74 (by decide) ?_
                  refine nv_icmp_ge (tgt := 144) hx hb (by omega) (by omega) dX2_markChanges_75 (by decide) (fun c_75 => ?_) (fun c_75 => ?_)
                  · refine lv_iinc (v := nI (i + 1)) (lv' := [(5, .int (nI (i + 1))), (0, .ref (gA G 139)), (1, .int (nI r0)), (2, .int (nI b0)), (3, .ref (gA G (3 * b0))), (4, .ref (gA G (3 * r0))), (6, .int (nI 0)), (7, .int (nI w))]) hx hb dX2_markChanges_144 hl (k := 5) rfl (nI_add i 1) (by decide) rfl (fun ls hl => ?_)
                    refine lv_goto (tgt := 18) hx hb dX2_markChanges_147 (by decide) ?_
                    exact ih (i + 1) Q2 H locs hW hS hq2 (by omega) (by omega) ls (lv_sub hl [1, 2, 3, 4, 5, 0] rfl)
                  · exact absurd c_75 (by omega)
                | succ k ih2 =>
                  intro w Q2 H locs hW hS hq2 h3 ls hl
                  refine lv_iload hx hb dX2_markChanges_72 (lv_at hl 7 rfl) ?_
                  refine lv_iconst (v := nI 3) hx hb dX2_markChanges_74 (by decide) ?_
                  refine nv_icmp_ge (tgt := 144) hx hb (by omega) (by omega) dX2_markChanges_75 (by decide) (fun c_75 => ?_) (fun c_75 => ?_)
                  · exact absurd c_75 (by omega)
                  · refine lv_iload hx hb dX2_markChanges_78 (lv_at hl 6 rfl) ?_
                    refine lv_if_ne (tgt := 103) hx hb dX2_markChanges_80 (by decide) (fun c_80 => ?_) (fun c_80 => ?_)
                    · exact absurd c_80 (by decide)
                    · refine lv_aload hx hb dX2_markChanges_83 (lv_at hl 4 rfl) ?_
                      refine lv_iload hx hb dX2_markChanges_85 (lv_at hl 5 rfl) ?_
                      refine lv_iload hx hb dX2_markChanges_87 (lv_at hl 7 rfl) ?_
                      refine pv_i (va_runV (As := [.int (nI i), .int (nI w)]) (rest := []) ⟨hx, hb, hml, hown, hts⟩ (k_X1_valueOf l G Q2 (t := r0) (by omega) (n := i) (w := w) (by omega) (by omega)) (cwV 2 hts gX2_markChanges_X1_valueOf rfl rfl rfl (by decide +kernel) ⟨Nat.le_of_ble_eq_true rfl, Nat.le_of_ble_eq_true rfl⟩) ⟨cP_blind, c_recv hW hK (k := (3 * r0)) (ci := 1) (cw_T (t := r0) (by omega)) rfl, cP_at hW hK hS⟩ rfl rfl hl.1 rfl (lv_room (Nat.le_of_ble_eq_true rfl)) dX2_markChanges_89 ⟨Nat.le_of_ble_eq_true rfl, Nat.le_of_ble_eq_true rfl⟩) (fun r_3 hr_3 => ?_)
                      have hr_3 : r_3 = Q2.1 (3 * r0 + 1) (i * 3 + w) := hr_3
                      subst hr_3
                      refine lv_aload_n hx hb dX2_markChanges_92 rfl (lv_at hl 3 rfl) ?_
                      refine lv_iload hx hb dX2_markChanges_93 (lv_at hl 5 rfl) ?_
                      refine lv_iload hx hb dX2_markChanges_95 (lv_at hl 7 rfl) ?_
                      refine pv_i (va_runV (As := [.int (nI i), .int (nI w)]) (rest := [.int (Q2.1 (3 * r0 + 1) (i * 3 + w))]) ⟨hx, hb, hml, hown, hts⟩ (k_X1_valueOf l G Q2 (t := b0) (by omega) (n := i) (w := w) (by omega) (by omega)) (cwV 2 hts gX2_markChanges_X1_valueOf rfl rfl rfl (by decide +kernel) ⟨Nat.le_of_ble_eq_true rfl, Nat.le_of_ble_eq_true rfl⟩) ⟨cP_blind, c_recv hW hK (k := (3 * b0)) (ci := 1) (cw_T (t := b0) (by omega)) rfl, cP_at hW hK hS⟩ rfl rfl hl.1 rfl (lv_room (Nat.le_of_ble_eq_true rfl)) dX2_markChanges_97 ⟨Nat.le_of_ble_eq_true rfl, Nat.le_of_ble_eq_true rfl⟩) (fun r_4 hr_4 => ?_)
                      have hr_4 : r_4 = Q2.1 (3 * b0 + 1) (i * 3 + w) := hr_4
                      subst hr_4
                      refine lv_icmp_eq (tgt := 107) hx hb dX2_markChanges_100 (by decide) (fun c_100 => ?_) (fun c_100 => ?_)
                      · refine lv_iconst (v := nI 0) hx hb dX2_markChanges_107 (by decide) ?_
                        refine lv_istore (lv' := [(8, .int (nI 0)), (0, .ref (gA G 139)), (1, .int (nI r0)), (2, .int (nI b0)), (3, .ref (gA G (3 * b0))), (4, .ref (gA G (3 * r0))), (5, .int (nI i)), (6, .int (nI 0)), (7, .int (nI w))]) hx hb dX2_markChanges_108 hl (by decide) rfl (fun ls hl => ?_)
                        refine lv_aload hx hb dX2_markChanges_110 (lv_at hl 5 rfl) ?_
                        refine lv_iload hx hb dX2_markChanges_112 (lv_at hl 6 rfl) ?_
                        refine lv_iload hx hb dX2_markChanges_114 (lv_at hl 8 rfl) ?_
                        refine lv_iload hx hb dX2_markChanges_116 (lv_at hl 0 rfl) ?_
                        refine lv_if_eq (tgt := 127) hx hb dX2_markChanges_118 (by decide) (fun c_118 => ?_) (fun c_118 => ?_)
                        · refine lv_aload_n hx hb dX2_markChanges_127 rfl (lv_at hl 4 rfl) ?_
                          refine lv_iload hx hb dX2_markChanges_128 (lv_at hl 6 rfl) ?_
                          refine lv_iload hx hb dX2_markChanges_130 (lv_at hl 8 rfl) ?_
                          refine pv_l (va_runV (As := [.int (nI i), .int (nI w)]) (rest := [.int (nI w), .int (nI i), .ref (gA G (3 * r0))]) ⟨hx, hb, hml, hown, hts⟩ (k_X1_marksOf l G Q2 (t := b0) (by omega) (n := i) (w := w) (by omega) (by omega)) (cwV 2 hts gX2_markChanges_X1_marksOf rfl rfl rfl (by decide +kernel) ⟨Nat.le_of_ble_eq_true rfl, Nat.le_of_ble_eq_true rfl⟩) ⟨cP_blind, c_recv hW hK (k := (3 * b0)) (ci := 1) (cw_T (t := b0) (by omega)) rfl, cP_at hW hK hS⟩ rfl rfl hl.1 rfl (lv_room (Nat.le_of_ble_eq_true rfl)) dX2_markChanges_132 ⟨Nat.le_of_ble_eq_true rfl, Nat.le_of_ble_eq_true rfl⟩) (fun r_5 hr_5 => ?_)
                          have hr_5 : r_5 = Q2.2 (3 * b0 + 2) (i * 3 + w) := hr_5
                          subst hr_5
                          refine ev_v (va_runV (As := [.int (nI i), .int (nI w), .long (Q2.2 (3 * b0 + 2) (i * 3 + w))]) (rest := []) ⟨hx, hb, hml, hown, hts⟩ (k_X1_setMarks l G Q2 H.size (t := r0) (by omega) (n := i) (w := w) (by omega) (by omega) (Q2.2 (3 * b0 + 2) (i * 3 + w))) (cwV 3 hts gX2_markChanges_X1_setMarks rfl rfl rfl (by decide +kernel) ⟨Nat.le_of_ble_eq_true rfl, Nat.le_of_ble_eq_true rfl⟩) ⟨cQ_blind, c_recv hW hK (k := (3 * r0)) (ci := 1) (cw_T (t := r0) (by omega)) rfl, cQ_at hW hK hS⟩ rfl rfl hl.1 rfl (lv_room (Nat.le_of_ble_eq_true rfl)) dX2_markChanges_135 ⟨Nat.le_of_ble_eq_true rfl, Nat.le_of_ble_eq_true rfl⟩) hS (fun S_6 t9 H locs ht9 hS_6 hW hS => ?_)
                          have hW : cW G S_6 H := ht9 ▸ hW
                          refine lv_iinc (v := nI (w + 1)) (lv' := [(7, .int (nI (w + 1))), (8, .int (nI 0)), (0, .ref (gA G 139)), (1, .int (nI r0)), (2, .int (nI b0)), (3, .ref (gA G (3 * b0))), (4, .ref (gA G (3 * r0))), (5, .int (nI i)), (6, .int (nI 0))]) hx hb dX2_markChanges_138 hl (k := 8) rfl (nI_add w 1) (by decide) rfl (fun ls hl => ?_)
                          refine lv_goto (tgt := 72) hx hb dX2_markChanges_141 (by decide) ?_
                          have E : mcW r0 b0 i false (k + 1) w Q2 = mcW r0 b0 i false k (w + 1) S_6 := by rw [mcW, if_neg (fun h => h.elim (fun z => Bool.false_ne_true z) (fun z => z c_100)), hS_6]; try rfl
                          rw [E]
                          exact ih2 (w + 1) S_6 H locs hW hS (by rw [hS_6]; exact hq2) (by omega) ls (lv_sub hl [2, 3, 4, 5, 6, 7, 8, 0] rfl)
                        · exact absurd c_118 (by decide)
                      · refine lv_iconst (v := nI 1) hx hb dX2_markChanges_103 (by decide) ?_
                        refine lv_goto (tgt := 108) hx hb dX2_markChanges_104 (by decide) ?_
                        refine lv_istore (lv' := [(8, .int (nI 1)), (0, .ref (gA G 139)), (1, .int (nI r0)), (2, .int (nI b0)), (3, .ref (gA G (3 * b0))), (4, .ref (gA G (3 * r0))), (5, .int (nI i)), (6, .int (nI 0)), (7, .int (nI w))]) hx hb dX2_markChanges_108 hl (by decide) rfl (fun ls hl => ?_)
                        refine lv_aload hx hb dX2_markChanges_110 (lv_at hl 5 rfl) ?_
                        refine lv_iload hx hb dX2_markChanges_112 (lv_at hl 6 rfl) ?_
                        refine lv_iload hx hb dX2_markChanges_114 (lv_at hl 8 rfl) ?_
                        refine lv_iload hx hb dX2_markChanges_116 (lv_at hl 0 rfl) ?_
                        refine lv_if_eq (tgt := 127) hx hb dX2_markChanges_118 (by decide) (fun c_118 => ?_) (fun c_118 => ?_)
                        · exact absurd c_118 (by decide)
                        · refine lv_lconst (v := 1) hx hb dX2_markChanges_121 (by decide) ?_
                          refine lv_iload_n hx hb dX2_markChanges_122 rfl (lv_at hl 2 rfl) ?_
                          refine lv_lshl (v := 1 <<< ((nI r0).toInt64 &&& 63)) hx hb dX2_markChanges_123 rfl ?_
                          refine lv_goto (tgt := 135) hx hb dX2_markChanges_124 (by decide) ?_
                          refine ev_v (va_runV (As := [.int (nI i), .int (nI w), .long (1 <<< ((nI r0).toInt64 &&& 63))]) (rest := []) ⟨hx, hb, hml, hown, hts⟩ (k_X1_setMarks l G Q2 H.size (t := r0) (by omega) (n := i) (w := w) (by omega) (by omega) (1 <<< ((nI r0).toInt64 &&& 63))) (cwV 3 hts gX2_markChanges_X1_setMarks rfl rfl rfl (by decide +kernel) ⟨Nat.le_of_ble_eq_true rfl, Nat.le_of_ble_eq_true rfl⟩) ⟨cQ_blind, c_recv hW hK (k := (3 * r0)) (ci := 1) (cw_T (t := r0) (by omega)) rfl, cQ_at hW hK hS⟩ rfl rfl hl.1 rfl (lv_room (Nat.le_of_ble_eq_true rfl)) dX2_markChanges_135 ⟨Nat.le_of_ble_eq_true rfl, Nat.le_of_ble_eq_true rfl⟩) hS (fun S_7 t9 H locs ht9 hS_7 hW hS => ?_)
                          have hW : cW G S_7 H := ht9 ▸ hW
                          refine lv_iinc (v := nI (w + 1)) (lv' := [(7, .int (nI (w + 1))), (8, .int (nI 1)), (0, .ref (gA G 139)), (1, .int (nI r0)), (2, .int (nI b0)), (3, .ref (gA G (3 * b0))), (4, .ref (gA G (3 * r0))), (5, .int (nI i)), (6, .int (nI 0))]) hx hb dX2_markChanges_138 hl (k := 8) rfl (nI_add w 1) (by decide) rfl (fun ls hl => ?_)
                          refine lv_goto (tgt := 72) hx hb dX2_markChanges_141 (by decide) ?_
                          have E : mcW r0 b0 i false (k + 1) w Q2 = mcW r0 b0 i false k (w + 1) S_7 := by rw [mcW, if_pos (Or.inr c_100), hS_7]; try rfl
                          rw [E]
                          exact ih2 (w + 1) S_7 H locs hW hS (by rw [hS_7]; exact hq2) (by omega) ls (lv_sub hl [2, 3, 4, 5, 6, 7, 8, 0] rfl)
              have E : mcN r0 b0 (n + 1) i Q = mcN r0 b0 n (i + 1) (mcW r0 b0 i false 3 0 Q) := by rw [mcN, mcI, if_pos c_34, if_pos c_46]
              rw [E]
              exact LQ 3 0 Q H locs hW hS hq (by omega) ls (lv_sub hl [2, 3, 4, 5, 6, 7, 1, 0] rfl)
            · exact absurd c_58 (by decide)
          · refine lv_iconst (v := nI 1) hx hb dX2_markChanges_49 (by decide) ?_
            refine lv_goto (tgt := 54) hx hb dX2_markChanges_50 (by decide) ?_
            refine lv_istore (lv' := [(6, .int (nI 1)), (0, .ref (gA G 139)), (1, .int (nI r0)), (2, .int (nI b0)), (3, .ref (gA G (3 * b0))), (4, .ref (gA G (3 * r0))), (5, .int (nI i))]) hx hb dX2_markChanges_54 hl (by decide) rfl (fun ls hl => ?_)
            refine lv_iload hx hb dX2_markChanges_56 (lv_at hl 0 rfl) ?_
            refine lv_if_eq (tgt := 69) hx hb dX2_markChanges_58 (by decide) (fun c_58 => ?_) (fun c_58 => ?_)
            · exact absurd c_58 (by decide)
            · refine lv_aload_n hx hb dX2_markChanges_61 rfl (lv_at hl 1 rfl) ?_
              refine va_get (D := gD G) (ci := 2) (v := .ref (gA G 142)) (C := RX2) (T := TX2) (N := 10) hx hb hts inX2 hown hK.1 hW 139 cw_O rfl 5 (by decide) (hts (.fieldLink RX2 33 "MarkedTrees" "births" "[I") (by decide +kernel)) (fun _ h9 => h9) rfl dX2_markChanges_62 ?_
              refine lv_iload hx hb dX2_markChanges_65 (lv_at hl 6 rfl) ?_
              refine lv_iload_n hx hb dX2_markChanges_67 rfl (lv_at hl 2 rfl) ?_
              refine nv_iast hx hb hK.1 hW (wl_D hK.2.1) hS 142 0 cw_B rfl (i := i) (by omega) (by decide) dX2_markChanges_68 (fun H locs hW hS => ?_)
              have hW : cW G (s1 Q 142 i (nI r0)) H := cp_B hW
              obtain ⟨S_8, eS_8⟩ : ∃ z, z = s1 Q 142 i (nI r0) := ⟨_, rfl⟩
              rw [← eS_8] at hW
              refine lv_iconst (v := nI 0) hx hb dX2_markChanges_69 (by decide) ?_
              refine lv_istore (lv' := [(7, .int (nI 0)), (6, .int (nI 1)), (0, .ref (gA G 139)), (1, .int (nI r0)), (2, .int (nI b0)), (3, .ref (gA G (3 * b0))), (4, .ref (gA G (3 * r0))), (5, .int (nI i))]) hx hb dX2_markChanges_70 hl (by decide) rfl (fun ls hl => ?_)
              have hq0 : S_8.1 139 7 = nI nc := by rw [eS_8, s1_ne _ _ _ _ (by omega)]; exact hq
              have LQ : ∀ (k : Nat) (w : Nat) (Q2 : SS) (H : Heap) (locs : List Loc), (cW G Q2 H) → (va_S (gF G s.heap.size) s.heap H locs) → (Q2.1 139 7 = nI nc) → (w + k = 3) → ∀ (ls : Array Slot), lv_has ls 9 [(0, .ref (gA G 139)), (1, .int (nI r0)), (2, .int (nI b0)), (3, .ref (gA G (3 * b0))), (4, .ref (gA G (3 * r0))), (5, .int (nI i)), (6, .int (nI 1)), (7, .int (nI w))] → W p l e (headSpec wsX2_markChanges ({ frames := 2, cells := 0, slots := 0, locals := 45 } : Room)).room s m ([.ref (gA G 139), .int (nI r0), .int (nI b0)] : List Value).toArray below meth c H locs 0 0 (MQ below (va_Qv (fun S' => S' = mcN r0 b0 n (i + 1) (mcW r0 b0 i true k w Q2)) (cB G) (gF G s.heap.size)) ([.ref (gA G 139), .int (nI r0), .int (nI b0)] : List Value).toArray s 0 0 (gF G s.heap.size)) (F0 m 72 ls []) := by
                intro k
                induction k with
                | zero =>
                  intro w Q2 H locs hW hS hq2 h3 ls hl
                  refine lv_iload hx hb dX2_markChanges_72 (lv_at hl 7 rfl) ?_
                  refine lv_iconst (v := nI 3) hx hb dX2_markChanges_74 (by decide) ?_
                  refine nv_icmp_ge (tgt := 144) hx hb (by omega) (by omega) dX2_markChanges_75 (by decide) (fun c_75 => ?_) (fun c_75 => ?_)
                  · refine lv_iinc (v := nI (i + 1)) (lv' := [(5, .int (nI (i + 1))), (0, .ref (gA G 139)), (1, .int (nI r0)), (2, .int (nI b0)), (3, .ref (gA G (3 * b0))), (4, .ref (gA G (3 * r0))), (6, .int (nI 1)), (7, .int (nI w))]) hx hb dX2_markChanges_144 hl (k := 5) rfl (nI_add i 1) (by decide) rfl (fun ls hl => ?_)
                    refine lv_goto (tgt := 18) hx hb dX2_markChanges_147 (by decide) ?_
                    exact ih (i + 1) Q2 H locs hW hS hq2 (by omega) (by omega) ls (lv_sub hl [1, 2, 3, 4, 5, 0] rfl)
                  · exact absurd c_75 (by omega)
                | succ k ih2 =>
                  intro w Q2 H locs hW hS hq2 h3 ls hl
                  refine lv_iload hx hb dX2_markChanges_72 (lv_at hl 7 rfl) ?_
                  refine lv_iconst (v := nI 3) hx hb dX2_markChanges_74 (by decide) ?_
                  refine nv_icmp_ge (tgt := 144) hx hb (by omega) (by omega) dX2_markChanges_75 (by decide) (fun c_75 => ?_) (fun c_75 => ?_)
                  · exact absurd c_75 (by omega)
                  · refine lv_iload hx hb dX2_markChanges_78 (lv_at hl 6 rfl) ?_
                    refine lv_if_ne (tgt := 103) hx hb dX2_markChanges_80 (by decide) (fun c_80 => ?_) (fun c_80 => ?_)
                    · refine lv_iconst (v := nI 1) hx hb dX2_markChanges_103 (by decide) ?_
                      refine lv_goto (tgt := 108) hx hb dX2_markChanges_104 (by decide) ?_
                      refine lv_istore (lv' := [(8, .int (nI 1)), (0, .ref (gA G 139)), (1, .int (nI r0)), (2, .int (nI b0)), (3, .ref (gA G (3 * b0))), (4, .ref (gA G (3 * r0))), (5, .int (nI i)), (6, .int (nI 1)), (7, .int (nI w))]) hx hb dX2_markChanges_108 hl (by decide) rfl (fun ls hl => ?_)
                      refine lv_aload hx hb dX2_markChanges_110 (lv_at hl 5 rfl) ?_
                      refine lv_iload hx hb dX2_markChanges_112 (lv_at hl 6 rfl) ?_
                      refine lv_iload hx hb dX2_markChanges_114 (lv_at hl 8 rfl) ?_
                      refine lv_iload hx hb dX2_markChanges_116 (lv_at hl 0 rfl) ?_
                      refine lv_if_eq (tgt := 127) hx hb dX2_markChanges_118 (by decide) (fun c_118 => ?_) (fun c_118 => ?_)
                      · exact absurd c_118 (by decide)
                      · refine lv_lconst (v := 1) hx hb dX2_markChanges_121 (by decide) ?_
                        refine lv_iload_n hx hb dX2_markChanges_122 rfl (lv_at hl 2 rfl) ?_
                        refine lv_lshl (v := 1 <<< ((nI r0).toInt64 &&& 63)) hx hb dX2_markChanges_123 rfl ?_
                        refine lv_goto (tgt := 135) hx hb dX2_markChanges_124 (by decide) ?_
                        refine ev_v (va_runV (As := [.int (nI i), .int (nI w), .long (1 <<< ((nI r0).toInt64 &&& 63))]) (rest := []) ⟨hx, hb, hml, hown, hts⟩ (k_X1_setMarks l G Q2 H.size (t := r0) (by omega) (n := i) (w := w) (by omega) (by omega) (1 <<< ((nI r0).toInt64 &&& 63))) (cwV 3 hts gX2_markChanges_X1_setMarks rfl rfl rfl (by decide +kernel) ⟨Nat.le_of_ble_eq_true rfl, Nat.le_of_ble_eq_true rfl⟩) ⟨cQ_blind, c_recv hW hK (k := (3 * r0)) (ci := 1) (cw_T (t := r0) (by omega)) rfl, cQ_at hW hK hS⟩ rfl rfl hl.1 rfl (lv_room (Nat.le_of_ble_eq_true rfl)) dX2_markChanges_135 ⟨Nat.le_of_ble_eq_true rfl, Nat.le_of_ble_eq_true rfl⟩) hS (fun S_9 t9 H locs ht9 hS_9 hW hS => ?_)
                        have hW : cW G S_9 H := ht9 ▸ hW
                        refine lv_iinc (v := nI (w + 1)) (lv' := [(7, .int (nI (w + 1))), (8, .int (nI 1)), (0, .ref (gA G 139)), (1, .int (nI r0)), (2, .int (nI b0)), (3, .ref (gA G (3 * b0))), (4, .ref (gA G (3 * r0))), (5, .int (nI i)), (6, .int (nI 1))]) hx hb dX2_markChanges_138 hl (k := 8) rfl (nI_add w 1) (by decide) rfl (fun ls hl => ?_)
                        refine lv_goto (tgt := 72) hx hb dX2_markChanges_141 (by decide) ?_
                        have E : mcW r0 b0 i true (k + 1) w Q2 = mcW r0 b0 i true k (w + 1) S_9 := by rw [mcW, if_pos (Or.inl rfl), hS_9]; try rfl
                        rw [E]
                        exact ih2 (w + 1) S_9 H locs hW hS (by rw [hS_9]; exact hq2) (by omega) ls (lv_sub hl [2, 3, 4, 5, 6, 7, 8, 0] rfl)
                    · exact absurd c_80 (by decide)
              have E : mcN r0 b0 (n + 1) i Q = mcN r0 b0 n (i + 1) (mcW r0 b0 i true 3 0 S_8) := by rw [mcN, mcI, if_pos c_34, if_neg (by rw [c_46]; exact Bool.false_ne_true), eS_8]
              rw [E]
              exact LQ 3 0 S_8 H locs hW hS hq0 (by omega) ls (lv_sub hl [2, 3, 4, 5, 6, 7, 1, 0] rfl)
        · refine lv_goto (tgt := 144) hx hb dX2_markChanges_37 (by decide) ?_
          refine lv_iinc (v := nI (i + 1)) (lv' := [(5, .int (nI (i + 1))), (0, .ref (gA G 139)), (1, .int (nI r0)), (2, .int (nI b0)), (3, .ref (gA G (3 * b0))), (4, .ref (gA G (3 * r0)))]) hx hb dX2_markChanges_144 hl (k := 5) rfl (nI_add i 1) (by decide) rfl (fun ls hl => ?_)
          refine lv_goto (tgt := 18) hx hb dX2_markChanges_147 (by decide) ?_
          have E : mcN r0 b0 (n + 1) i Q = mcN r0 b0 n (i + 1) Q := by rw [mcN, mcI, if_neg (by rw [c_34]; exact Bool.false_ne_true)]
          rw [E]
          exact ih (i + 1) Q H locs hW hS hq (by omega) (by omega) ls (lv_sub hl [1, 2, 3, 4, 5, 0] rfl)
  refine lv_aload_n hx hb dX2_markChanges_0 rfl (lv_at hl 0 rfl) ?_
  refine va_get (D := gD G) (ci := 2) (v := .ref (gA G 140)) (C := RX2) (T := TX2) (N := 10) hx hb hts inX2 hown hK.1 hW 139 cw_O rfl 2 (by decide) (hts (.fieldLink RX2 21 "MarkedTrees" "trees" "[LMarkedTrees$Tree;") (by decide +kernel)) (fun _ h9 => h9) rfl dX2_markChanges_1 ?_
  refine lv_iload_n hx hb dX2_markChanges_4 rfl (lv_at hl 2 rfl) ?_
  refine nv_aald hx hb hK.1 hW 140 3 cw_R rfl (i := b0) (b := gA G (3 * b0)) (by omega) (by decide) rfl dX2_markChanges_5 ?_
  refine lv_astore_n (lv' := [(3, .ref (gA G (3 * b0))), (0, .ref (gA G 139)), (1, .int (nI r0)), (2, .int (nI b0))]) hx hb dX2_markChanges_6 rfl hl (by decide) rfl (fun ls hl => ?_)
  refine lv_aload_n hx hb dX2_markChanges_7 rfl (lv_at hl 1 rfl) ?_
  refine va_get (D := gD G) (ci := 2) (v := .ref (gA G 140)) (C := RX2) (T := TX2) (N := 10) hx hb hts inX2 hown hK.1 hW 139 cw_O rfl 2 (by decide) (hts (.fieldLink RX2 21 "MarkedTrees" "trees" "[LMarkedTrees$Tree;") (by decide +kernel)) (fun _ h9 => h9) rfl dX2_markChanges_8 ?_
  refine lv_iload_n hx hb dX2_markChanges_11 rfl (lv_at hl 2 rfl) ?_
  refine nv_aald hx hb hK.1 hW 140 3 cw_R rfl (i := r0) (b := gA G (3 * r0)) (by omega) (by decide) rfl dX2_markChanges_12 ?_
  refine lv_astore (lv' := [(4, .ref (gA G (3 * r0))), (3, .ref (gA G (3 * b0))), (0, .ref (gA G 139)), (1, .int (nI r0)), (2, .int (nI b0))]) hx hb dX2_markChanges_13 hl (by decide) rfl (fun ls hl => ?_)
  refine lv_iconst (v := nI 1) hx hb dX2_markChanges_15 (by decide) ?_
  refine lv_istore (lv' := [(5, .int (nI 1)), (4, .ref (gA G (3 * r0))), (3, .ref (gA G (3 * b0))), (0, .ref (gA G 139)), (1, .int (nI r0)), (2, .int (nI b0))]) hx hb dX2_markChanges_16 hl (by decide) rfl (fun ls hl => ?_)
  exact LP (nc - 1) 1 S s.heap [] hW hS hnc (by omega) (by omega) ls (lv_sub hl [3, 4, 5, 2, 1, 0] rfl)

set_option maxHeartbeats 4000000 in
set_option maxRecDepth 100000 in
theorem k_X2_ownSide (l : Launch) (G : GT) (S : SS) {n w a b : Nat} (hn : n < 16) (hw : w < 3) (ha : a < 40) (hb4 : b < 40) : Met l yX2_ownSide wsX2_ownSide ({ frames := 2, cells := 0, slots := 0, locals := 43 } : Room) (va_Pc [.ref (gA G 139), .int (nI n), .int (nI w), .int (nI a), .int (nI b)] (cP G S)) (vp_Si (fun r => r = osI S n w a b)) 0 0 (fun _ => False) := by
  refine Met.ofW (cc := cX2_ownSide) (maxL := 5) (ret := (some .int)) (by decide) rfl ?_
  intro p e s m args below meth c s₁ B hml hv
  obtain ⟨rfl, hW, hK⟩ := hv
  have hx := B.exec
  have hb := B.bytes
  have hr := B.returns
  have hts := atoms_spec (ws := wsX2_ownSide) B.pre
  have hown : s.vm.findClass RX2 = some m.cls := findClass_of_methodNamed B.named
  have hlocks := B.notSynchronized
  have hS : va_S (gF G s.heap.size) s.heap s.heap [] := va_S.rf
  have inX2 : ∀ w ∈ u_ws RX2 TX2 10, w ∈ wsX2_ownSide := by decide +kernel
  have hl := lv_entry ([.ref (gA G 139), .int (nI n), .int (nI w), .int (nI a), .int (nI b)]) (n := 5) (Nat.le_of_ble_eq_true rfl)
  rw [lg_entry_eq]
  generalize (lg_sl ([.ref (gA G 139), .int (nI n), .int (nI w), .int (nI a), .int (nI b)]) ++ List.replicate (5 - (lg_sl ([.ref (gA G 139), .int (nI n), .int (nI w), .int (nI a), .int (nI b)])).length) Slot.unset).toArray = ls at hl ⊢
  have hl : lv_has ls 5 [(0, .ref (gA G 139)), (1, .int (nI n)), (2, .int (nI w)), (3, .int (nI a)), (4, .int (nI b))] := hl
  refine lv_aload_n hx hb dX2_ownSide_0 rfl (lv_at hl 0 rfl) ?_
  refine va_get (D := gD G) (ci := 2) (v := .ref (gA G 140)) (C := RX2) (T := TX2) (N := 10) hx hb hts inX2 hown hK.1 hW 139 cw_O rfl 2 (by decide) (hts (.fieldLink RX2 21 "MarkedTrees" "trees" "[LMarkedTrees$Tree;") (by decide +kernel)) (fun _ h9 => h9) rfl dX2_ownSide_1 ?_
  refine lv_iload_n hx hb dX2_ownSide_4 rfl (lv_at hl 3 rfl) ?_
  refine nv_aald hx hb hK.1 hW 140 3 cw_R rfl (i := a) (b := gA G (3 * a)) (by omega) (by decide) rfl dX2_ownSide_5 ?_
  refine lv_iload_n hx hb dX2_ownSide_6 rfl (lv_at hl 1 rfl) ?_
  refine lv_iload_n hx hb dX2_ownSide_7 rfl (lv_at hl 2 rfl) ?_
  refine pv_i (va_runV (As := [.int (nI n), .int (nI w)]) (rest := []) ⟨hx, hb, hml, hown, hts⟩ (k_X1_valueOf l G S (t := a) (by omega) (n := n) (w := w) (by omega) (by omega)) (cwV 2 hts gX2_ownSide_X1_valueOf rfl rfl rfl (by decide +kernel) ⟨Nat.le_of_ble_eq_true rfl, Nat.le_of_ble_eq_true rfl⟩) ⟨cP_blind, c_recv hW hK (k := (3 * a)) (ci := 1) (cw_T (t := a) (by omega)) rfl, cP_at hW hK hS⟩ rfl rfl hl.1 rfl (lv_room (Nat.le_of_ble_eq_true rfl)) dX2_ownSide_8 ⟨Nat.le_of_ble_eq_true rfl, Nat.le_of_ble_eq_true rfl⟩) (fun r_1 hr_1 => ?_)
  have hr_1 : r_1 = S.1 (3 * a + 1) (n * 3 + w) := hr_1
  subst hr_1
  refine lv_aload_n hx hb dX2_ownSide_11 rfl (lv_at hl 0 rfl) ?_
  refine va_get (D := gD G) (ci := 2) (v := .ref (gA G 140)) (C := RX2) (T := TX2) (N := 10) hx hb hts inX2 hown hK.1 hW 139 cw_O rfl 2 (by decide) (hts (.fieldLink RX2 21 "MarkedTrees" "trees" "[LMarkedTrees$Tree;") (by decide +kernel)) (fun _ h9 => h9) rfl dX2_ownSide_12 ?_
  refine lv_iload hx hb dX2_ownSide_15 (lv_at hl 4 rfl) ?_
  refine nv_aald hx hb hK.1 hW 140 3 cw_R rfl (i := b) (b := gA G (3 * b)) (by omega) (by decide) rfl dX2_ownSide_17 ?_
  refine lv_iload_n hx hb dX2_ownSide_18 rfl (lv_at hl 1 rfl) ?_
  refine lv_iload_n hx hb dX2_ownSide_19 rfl (lv_at hl 2 rfl) ?_
  refine pv_i (va_runV (As := [.int (nI n), .int (nI w)]) (rest := [.int (S.1 (3 * a + 1) (n * 3 + w))]) ⟨hx, hb, hml, hown, hts⟩ (k_X1_valueOf l G S (t := b) (by omega) (n := n) (w := w) (by omega) (by omega)) (cwV 2 hts gX2_ownSide_X1_valueOf rfl rfl rfl (by decide +kernel) ⟨Nat.le_of_ble_eq_true rfl, Nat.le_of_ble_eq_true rfl⟩) ⟨cP_blind, c_recv hW hK (k := (3 * b)) (ci := 1) (cw_T (t := b) (by omega)) rfl, cP_at hW hK hS⟩ rfl rfl hl.1 rfl (lv_room (Nat.le_of_ble_eq_true rfl)) dX2_ownSide_20 ⟨Nat.le_of_ble_eq_true rfl, Nat.le_of_ble_eq_true rfl⟩) (fun r_2 hr_2 => ?_)
  have hr_2 : r_2 = S.1 (3 * b + 1) (n * 3 + w) := hr_2
  subst hr_2
  refine lv_icmp_ne (tgt := 28) hx hb dX2_ownSide_23 (by decide) (fun c_23 => ?_) (fun c_23 => ?_)
  · refine lv_aload_n hx hb dX2_ownSide_28 rfl (lv_at hl 0 rfl) ?_
    refine va_get (D := gD G) (ci := 2) (v := .ref (gA G 140)) (C := RX2) (T := TX2) (N := 10) hx hb hts inX2 hown hK.1 hW 139 cw_O rfl 2 (by decide) (hts (.fieldLink RX2 21 "MarkedTrees" "trees" "[LMarkedTrees$Tree;") (by decide +kernel)) (fun _ h9 => h9) rfl dX2_ownSide_29 ?_
    refine lv_iload_n hx hb dX2_ownSide_32 rfl (lv_at hl 3 rfl) ?_
    refine nv_aald hx hb hK.1 hW 140 3 cw_R rfl (i := a) (b := gA G (3 * a)) (by omega) (by decide) rfl dX2_ownSide_33 ?_
    refine lv_iload_n hx hb dX2_ownSide_34 rfl (lv_at hl 1 rfl) ?_
    refine lv_iload_n hx hb dX2_ownSide_35 rfl (lv_at hl 2 rfl) ?_
    refine pv_l (va_runV (As := [.int (nI n), .int (nI w)]) (rest := []) ⟨hx, hb, hml, hown, hts⟩ (k_X1_marksOf l G S (t := a) (by omega) (n := n) (w := w) (by omega) (by omega)) (cwV 2 hts gX2_ownSide_X1_marksOf rfl rfl rfl (by decide +kernel) ⟨Nat.le_of_ble_eq_true rfl, Nat.le_of_ble_eq_true rfl⟩) ⟨cP_blind, c_recv hW hK (k := (3 * a)) (ci := 1) (cw_T (t := a) (by omega)) rfl, cP_at hW hK hS⟩ rfl rfl hl.1 rfl (lv_room (Nat.le_of_ble_eq_true rfl)) dX2_ownSide_36 ⟨Nat.le_of_ble_eq_true rfl, Nat.le_of_ble_eq_true rfl⟩) (fun r_3 hr_3 => ?_)
    have hr_3 : r_3 = S.2 (3 * a + 2) (n * 3 + w) := hr_3
    subst hr_3
    refine lv_aload_n hx hb dX2_ownSide_39 rfl (lv_at hl 0 rfl) ?_
    refine lv_iload hx hb dX2_ownSide_40 (lv_at hl 4 rfl) ?_
    refine pv_l (va_runV (As := [.int (nI b)]) (rest := [.long (S.2 (3 * a + 2) (n * 3 + w))]) ⟨hx, hb, hml, hown, hts⟩ (k_X2_upTo l G S (r0 := b) (by omega)) (cwV 1 hts gX2_ownSide_X2_upTo rfl rfl rfl (by decide +kernel) ⟨Nat.le_of_ble_eq_true rfl, Nat.le_of_ble_eq_true rfl⟩) ⟨cP_blind, c_recv hW hK (k := 139) (ci := 2) cw_O rfl, cP_at hW hK hS⟩ rfl rfl hl.1 rfl (lv_room (Nat.le_of_ble_eq_true rfl)) dX2_ownSide_42 ⟨Nat.le_of_ble_eq_true rfl, Nat.le_of_ble_eq_true rfl⟩) (fun r_4 hr_4 => ?_)
    have hr_4 : r_4 = S.2 141 b ||| b64 b := hr_4
    subst hr_4
    refine lv_ldc2 (v := (-1)) hx hb hown (hts (.constantLong RX2 292 (-1)) (by decide +kernel)) dX2_ownSide_45 ?_
    refine lv_lxor hx hb dX2_ownSide_48 ?_
    refine lv_land hx hb dX2_ownSide_49 ?_
    refine lv_lconst (v := 0) hx hb dX2_ownSide_50 (by decide) ?_
    refine W.lcmp hx hb dX2_ownSide_51 ?_
    refine cv_if_ne (tgt := 57) hx hb dX2_ownSide_52 (by decide) (fun c_52 => ?_) (fun c_52 => ?_)
    · refine lv_aload_n hx hb dX2_ownSide_57 rfl (lv_at hl 0 rfl) ?_
      refine va_get (D := gD G) (ci := 2) (v := .ref (gA G 140)) (C := RX2) (T := TX2) (N := 10) hx hb hts inX2 hown hK.1 hW 139 cw_O rfl 2 (by decide) (hts (.fieldLink RX2 21 "MarkedTrees" "trees" "[LMarkedTrees$Tree;") (by decide +kernel)) (fun _ h9 => h9) rfl dX2_ownSide_58 ?_
      refine lv_iload hx hb dX2_ownSide_61 (lv_at hl 4 rfl) ?_
      refine nv_aald hx hb hK.1 hW 140 3 cw_R rfl (i := b) (b := gA G (3 * b)) (by omega) (by decide) rfl dX2_ownSide_63 ?_
      refine lv_iload_n hx hb dX2_ownSide_64 rfl (lv_at hl 1 rfl) ?_
      refine lv_iload_n hx hb dX2_ownSide_65 rfl (lv_at hl 2 rfl) ?_
      refine pv_l (va_runV (As := [.int (nI n), .int (nI w)]) (rest := []) ⟨hx, hb, hml, hown, hts⟩ (k_X1_marksOf l G S (t := b) (by omega) (n := n) (w := w) (by omega) (by omega)) (cwV 2 hts gX2_ownSide_X1_marksOf rfl rfl rfl (by decide +kernel) ⟨Nat.le_of_ble_eq_true rfl, Nat.le_of_ble_eq_true rfl⟩) ⟨cP_blind, c_recv hW hK (k := (3 * b)) (ci := 1) (cw_T (t := b) (by omega)) rfl, cP_at hW hK hS⟩ rfl rfl hl.1 rfl (lv_room (Nat.le_of_ble_eq_true rfl)) dX2_ownSide_66 ⟨Nat.le_of_ble_eq_true rfl, Nat.le_of_ble_eq_true rfl⟩) (fun r_5 hr_5 => ?_)
      have hr_5 : r_5 = S.2 (3 * b + 2) (n * 3 + w) := hr_5
      subst hr_5
      refine lv_aload_n hx hb dX2_ownSide_69 rfl (lv_at hl 0 rfl) ?_
      refine lv_iload_n hx hb dX2_ownSide_70 rfl (lv_at hl 3 rfl) ?_
      refine pv_l (va_runV (As := [.int (nI a)]) (rest := [.long (S.2 (3 * b + 2) (n * 3 + w))]) ⟨hx, hb, hml, hown, hts⟩ (k_X2_upTo l G S (r0 := a) (by omega)) (cwV 1 hts gX2_ownSide_X2_upTo rfl rfl rfl (by decide +kernel) ⟨Nat.le_of_ble_eq_true rfl, Nat.le_of_ble_eq_true rfl⟩) ⟨cP_blind, c_recv hW hK (k := 139) (ci := 2) cw_O rfl, cP_at hW hK hS⟩ rfl rfl hl.1 rfl (lv_room (Nat.le_of_ble_eq_true rfl)) dX2_ownSide_71 ⟨Nat.le_of_ble_eq_true rfl, Nat.le_of_ble_eq_true rfl⟩) (fun r_6 hr_6 => ?_)
      have hr_6 : r_6 = S.2 141 a ||| b64 a := hr_6
      subst hr_6
      refine lv_ldc2 (v := (-1)) hx hb hown (hts (.constantLong RX2 292 (-1)) (by decide +kernel)) dX2_ownSide_74 ?_
      refine lv_lxor hx hb dX2_ownSide_77 ?_
      refine lv_land hx hb dX2_ownSide_78 ?_
      refine lv_lconst (v := 0) hx hb dX2_ownSide_79 (by decide) ?_
      refine W.lcmp hx hb dX2_ownSide_80 ?_
      refine cv_if_ne (tgt := 86) hx hb dX2_ownSide_81 (by decide) (fun c_81 => ?_) (fun c_81 => ?_)
      · refine lv_iconst (v := (-1)) hx hb dX2_ownSide_86 (by decide) ?_
        exact W.iret (v := (-1)) hx hb hr (fun t9 ht9 _ => ⟨_, rfl, (by unfold osI; rw [if_neg c_23, if_neg c_52, if_neg c_81]), ht9⟩) (fun _ h => by cases h) dX2_ownSide_87
      · refine lv_iconst (v := nI 0) hx hb dX2_ownSide_84 (by decide) ?_
        exact W.iret (v := nI 0) hx hb hr (fun t9 ht9 _ => ⟨_, rfl, (by unfold osI; rw [if_neg c_23, if_neg c_52, if_pos c_81]), ht9⟩) (fun _ h => by cases h) dX2_ownSide_85
    · refine lv_iconst (v := nI 1) hx hb dX2_ownSide_55 (by decide) ?_
      exact W.iret (v := nI 1) hx hb hr (fun t9 ht9 _ => ⟨_, rfl, (by unfold osI; rw [if_neg c_23, if_pos c_52]), ht9⟩) (fun _ h => by cases h) dX2_ownSide_56
  · refine lv_iconst (v := nI 2) hx hb dX2_ownSide_26 (by decide) ?_
    exact W.iret (v := nI 2) hx hb hr (fun t9 ht9 _ => ⟨_, rfl, (by unfold osI; rw [if_pos c_23]), ht9⟩) (fun _ h => by cases h) dX2_ownSide_27

set_option maxHeartbeats 4000000 in
set_option maxRecDepth 100000 in
theorem k_X2_mergedMarks (l : Launch) (G : GT) (S : SS) {rc : Nat} (hrc : S.1 139 4 = nI rc) (h40 : rc ≤ 40) {n w a b : Nat} (hn : n < 16) (hw : w < 3) (ha : a < 40) (hb4 : b < 40) (own side : Int32) : Met l yX2_mergedMarks wsX2_mergedMarks ({ frames := 2, cells := 0, slots := 0, locals := 47 } : Room) (va_Pc [.ref (gA G 139), .int (nI n), .int (nI w), .int (nI a), .int (nI b), .int own, .int side] (cP G S)) (vp_Sl (fun r => r = mmI S rc n w a b own side)) 0 0 (fun _ => False) := by
  refine Met.ofW (cc := cX2_mergedMarks) (maxL := 11) (ret := (some .long)) (by decide) rfl ?_
  intro p e s m args below meth c s₁ B hml hv
  obtain ⟨rfl, hW, hK⟩ := hv
  have hx := B.exec
  have hb := B.bytes
  have hr := B.returns
  have hts := atoms_spec (ws := wsX2_mergedMarks) B.pre
  have hown : s.vm.findClass RX2 = some m.cls := findClass_of_methodNamed B.named
  have hlocks := B.notSynchronized
  have hS : va_S (gF G s.heap.size) s.heap s.heap [] := va_S.rf
  have inX2 : ∀ w ∈ u_ws RX2 TX2 10, w ∈ wsX2_mergedMarks := by decide +kernel
  have hl := lv_entry ([.ref (gA G 139), .int (nI n), .int (nI w), .int (nI a), .int (nI b), .int own, .int side]) (n := 11) (Nat.le_of_ble_eq_true rfl)
  rw [lg_entry_eq]
  generalize (lg_sl ([.ref (gA G 139), .int (nI n), .int (nI w), .int (nI a), .int (nI b), .int own, .int side]) ++ List.replicate (11 - (lg_sl ([.ref (gA G 139), .int (nI n), .int (nI w), .int (nI a), .int (nI b), .int own, .int side])).length) Slot.unset).toArray = ls at hl ⊢
  have hl : lv_has ls 11 [(0, .ref (gA G 139)), (1, .int (nI n)), (2, .int (nI w)), (3, .int (nI a)), (4, .int (nI b)), (5, .int own), (6, .int side)] := hl
  refine lv_aload_n hx hb dX2_mergedMarks_0 rfl (lv_at hl 0 rfl) ?_
  refine va_get (D := gD G) (ci := 2) (v := .ref (gA G 140)) (C := RX2) (T := TX2) (N := 10) hx hb hts inX2 hown hK.1 hW 139 cw_O rfl 2 (by decide) (hts (.fieldLink RX2 21 "MarkedTrees" "trees" "[LMarkedTrees$Tree;") (by decide +kernel)) (fun _ h9 => h9) rfl dX2_mergedMarks_1 ?_
  refine lv_iload_n hx hb dX2_mergedMarks_4 rfl (lv_at hl 3 rfl) ?_
  refine nv_aald hx hb hK.1 hW 140 3 cw_R rfl (i := a) (b := gA G (3 * a)) (by omega) (by decide) rfl dX2_mergedMarks_5 ?_
  refine lv_iload_n hx hb dX2_mergedMarks_6 rfl (lv_at hl 1 rfl) ?_
  refine lv_iload_n hx hb dX2_mergedMarks_7 rfl (lv_at hl 2 rfl) ?_
  refine pv_l (va_runV (As := [.int (nI n), .int (nI w)]) (rest := []) ⟨hx, hb, hml, hown, hts⟩ (k_X1_marksOf l G S (t := a) (by omega) (n := n) (w := w) (by omega) (by omega)) (cwV 2 hts gX2_mergedMarks_X1_marksOf rfl rfl rfl (by decide +kernel) ⟨Nat.le_of_ble_eq_true rfl, Nat.le_of_ble_eq_true rfl⟩) ⟨cP_blind, c_recv hW hK (k := (3 * a)) (ci := 1) (cw_T (t := a) (by omega)) rfl, cP_at hW hK hS⟩ rfl rfl hl.1 rfl (lv_room (Nat.le_of_ble_eq_true rfl)) dX2_mergedMarks_8 ⟨Nat.le_of_ble_eq_true rfl, Nat.le_of_ble_eq_true rfl⟩) (fun r_1 hr_1 => ?_)
  have hr_1 : r_1 = S.2 (3 * a + 2) (n * 3 + w) := hr_1
  subst hr_1
  refine lv_lstore (lv' := [(7, .long (S.2 (3 * a + 2) (n * 3 + w))), (0, .ref (gA G 139)), (1, .int (nI n)), (2, .int (nI w)), (3, .int (nI a)), (4, .int (nI b)), (5, .int own), (6, .int side)]) hx hb dX2_mergedMarks_11 hl (by decide) rfl (fun ls hl => ?_)
  refine lv_aload_n hx hb dX2_mergedMarks_13 rfl (lv_at hl 1 rfl) ?_
  refine va_get (D := gD G) (ci := 2) (v := .ref (gA G 140)) (C := RX2) (T := TX2) (N := 10) hx hb hts inX2 hown hK.1 hW 139 cw_O rfl 2 (by decide) (hts (.fieldLink RX2 21 "MarkedTrees" "trees" "[LMarkedTrees$Tree;") (by decide +kernel)) (fun _ h9 => h9) rfl dX2_mergedMarks_14 ?_
  refine lv_iload hx hb dX2_mergedMarks_17 (lv_at hl 5 rfl) ?_
  refine nv_aald hx hb hK.1 hW 140 3 cw_R rfl (i := b) (b := gA G (3 * b)) (by omega) (by decide) rfl dX2_mergedMarks_19 ?_
  refine lv_iload_n hx hb dX2_mergedMarks_20 rfl (lv_at hl 2 rfl) ?_
  refine lv_iload_n hx hb dX2_mergedMarks_21 rfl (lv_at hl 3 rfl) ?_
  refine pv_l (va_runV (As := [.int (nI n), .int (nI w)]) (rest := []) ⟨hx, hb, hml, hown, hts⟩ (k_X1_marksOf l G S (t := b) (by omega) (n := n) (w := w) (by omega) (by omega)) (cwV 2 hts gX2_mergedMarks_X1_marksOf rfl rfl rfl (by decide +kernel) ⟨Nat.le_of_ble_eq_true rfl, Nat.le_of_ble_eq_true rfl⟩) ⟨cP_blind, c_recv hW hK (k := (3 * b)) (ci := 1) (cw_T (t := b) (by omega)) rfl, cP_at hW hK hS⟩ rfl rfl hl.1 rfl (lv_room (Nat.le_of_ble_eq_true rfl)) dX2_mergedMarks_22 ⟨Nat.le_of_ble_eq_true rfl, Nat.le_of_ble_eq_true rfl⟩) (fun r_2 hr_2 => ?_)
  have hr_2 : r_2 = S.2 (3 * b + 2) (n * 3 + w) := hr_2
  subst hr_2
  refine lv_lstore (lv' := [(9, .long (S.2 (3 * b + 2) (n * 3 + w))), (7, .long (S.2 (3 * a + 2) (n * 3 + w))), (0, .ref (gA G 139)), (1, .int (nI n)), (2, .int (nI w)), (3, .int (nI a)), (4, .int (nI b)), (5, .int own), (6, .int side)]) hx hb dX2_mergedMarks_25 hl (by decide) rfl (fun ls hl => ?_)
  refine lv_iload hx hb dX2_mergedMarks_27 (lv_at hl 7 rfl) ?_
  refine lv_iconst (v := nI 2) hx hb dX2_mergedMarks_29 (by decide) ?_
  refine lv_icmp_ne (tgt := 43) hx hb dX2_mergedMarks_30 (by decide) (fun c_30 => ?_) (fun c_30 => ?_)
  · refine lv_iload hx hb dX2_mergedMarks_43 (lv_at hl 7 rfl) ?_
    refine lv_iload hx hb dX2_mergedMarks_45 (lv_at hl 8 rfl) ?_
    refine lv_icmp_eq (tgt := 57) hx hb dX2_mergedMarks_47 (by decide) (fun c_47 => ?_) (fun c_47 => ?_)
    · refine lv_iload hx hb dX2_mergedMarks_57 (lv_at hl 8 rfl) ?_
      refine lv_iconst (v := nI 1) hx hb dX2_mergedMarks_59 (by decide) ?_
      refine lv_icmp_ne (tgt := 68) hx hb dX2_mergedMarks_60 (by decide) (fun c_60 => ?_) (fun c_60 => ?_)
      · refine lv_lload hx hb dX2_mergedMarks_68 (lv_at hl 1 rfl) ?_
        exact W.lret (v := S.2 (3 * a + 2) (n * 3 + w)) hx hb hr (fun t9 ht9 _ => ⟨_, rfl, (by unfold mmI; rw [if_neg c_30, if_pos c_47, if_neg c_60]), ht9⟩) (fun _ h => by cases h) dX2_mergedMarks_70
      · refine lv_lload hx hb dX2_mergedMarks_63 (lv_at hl 0 rfl) ?_
        refine lv_goto (tgt := 70) hx hb dX2_mergedMarks_65 (by decide) ?_
        exact W.lret (v := S.2 (3 * b + 2) (n * 3 + w)) hx hb hr (fun t9 ht9 _ => ⟨_, rfl, (by unfold mmI; rw [if_neg c_30, if_pos c_47, if_pos c_60]), ht9⟩) (fun _ h => by cases h) dX2_mergedMarks_70
    · refine lv_lconst (v := 1) hx hb dX2_mergedMarks_50 (by decide) ?_
      refine lv_aload_n hx hb dX2_mergedMarks_51 rfl (lv_at hl 2 rfl) ?_
      refine va_get (D := gD G) (ci := 2) (v := .int (nI rc)) (C := RX2) (T := TX2) (N := 10) hx hb hts inX2 hown hK.1 hW 139 cw_O rfl 4 (by decide) (hts (.fieldLink RX2 29 "MarkedTrees" "revisionCount" "I") (by decide +kernel)) (fun _ h9 => h9) (by rw [← hrc]; rfl) dX2_mergedMarks_52 ?_
      refine lv_lshl (v := 1 <<< ((nI rc).toInt64 &&& 63)) hx hb dX2_mergedMarks_55 rfl ?_
      exact W.lret (v := 1 <<< ((nI rc).toInt64 &&& 63)) hx hb hr (fun t9 ht9 _ => ⟨_, rfl, (by unfold mmI; rw [if_neg c_30, if_neg c_47]; rfl), ht9⟩) (fun _ h => by cases h) dX2_mergedMarks_56
  · refine lv_aload_n hx hb dX2_mergedMarks_33 rfl (lv_at hl 2 rfl) ?_
    refine lv_lload hx hb dX2_mergedMarks_34 (lv_at hl 1 rfl) ?_
    refine lv_lload hx hb dX2_mergedMarks_36 (lv_at hl 0 rfl) ?_
    refine lv_lor hx hb dX2_mergedMarks_38 ?_
    refine pv_l (va_runV (As := [.long ((S.2 (3 * a + 2) (n * 3 + w)) ||| (S.2 (3 * b + 2) (n * 3 + w)))]) (rest := []) ⟨hx, hb, hml, hown, hts⟩ (k_X2_latestOf l G S (rc := rc) hrc (by omega) ((S.2 (3 * a + 2) (n * 3 + w)) ||| (S.2 (3 * b + 2) (n * 3 + w)))) (cwV 1 hts gX2_mergedMarks_X2_latestOf rfl rfl rfl (by decide +kernel) ⟨Nat.le_of_ble_eq_true rfl, Nat.le_of_ble_eq_true rfl⟩) ⟨cP_blind, c_recv hW hK (k := 139) (ci := 2) cw_O rfl, cP_at hW hK hS⟩ rfl rfl hl.1 rfl (lv_room (Nat.le_of_ble_eq_true rfl)) dX2_mergedMarks_39 ⟨Nat.le_of_ble_eq_true rfl, Nat.le_of_ble_eq_true rfl⟩) (fun r_3 hr_3 => ?_)
    have hr_3 : r_3 = ltG S ((S.2 (3 * a + 2) (n * 3 + w)) ||| (S.2 (3 * b + 2) (n * 3 + w))) rc 0 ((S.2 (3 * a + 2) (n * 3 + w)) ||| (S.2 (3 * b + 2) (n * 3 + w))) := hr_3
    subst hr_3
    exact W.lret (v := ltG S ((S.2 (3 * a + 2) (n * 3 + w)) ||| (S.2 (3 * b + 2) (n * 3 + w))) rc 0 ((S.2 (3 * a + 2) (n * 3 + w)) ||| (S.2 (3 * b + 2) (n * 3 + w)))) hx hb hr (fun t9 ht9 _ => ⟨_, rfl, (by unfold mmI; rw [if_pos c_30]), ht9⟩) (fun _ h => by cases h) dX2_mergedMarks_42

set_option maxHeartbeats 4000000 in
set_option maxRecDepth 100000 in
theorem k_X2_mergeNode (l : Launch) (G : GT) (S : SS) (sz : Nat) {rc : Nat} (hrc : S.1 139 4 = nI rc) (h40 : rc ≤ 40) {i : Nat} (hi : i < 2) {n a b : Nat} (hn : n < 16) (ha : a < 40) (hb4 : b < 40) : Met l yX2_mergeNode wsX2_mergeNode ({ frames := 3, cells := 0, slots := 0, locals := 77 } : Room) (va_Pc [.ref (gA G 139), .ref (gA G (129 + 5 * i)), .int (nI n), .int (nI a), .int (nI b)] (fun U => U.heap.size = sz ∧ cP G S U)) (va_Qv (fun S' => S' = mnS S rc i n a b) (cB G) (gF G sz)) 0 0 (gF G sz) := by
  refine Met.ofW (cc := cX2_mergeNode) (maxL := 10) (ret := none) (by decide) rfl ?_
  intro p e s m args below meth c s₁ B hml hv
  obtain ⟨rfl, hsz, hW, hK⟩ := hv
  subst hsz
  have hx := B.exec
  have hb := B.bytes
  have hr := B.returns
  have hts := atoms_spec (ws := wsX2_mergeNode) B.pre
  have hown : s.vm.findClass RX2 = some m.cls := findClass_of_methodNamed B.named
  have hlocks := B.notSynchronized
  have hS : va_S (gF G s.heap.size) s.heap s.heap [] := va_S.rf
  have inX0 : ∀ w ∈ u_ws RX0 TX0 10, w ∈ wsX2_mergeNode := by decide +kernel
  have inX2 : ∀ w ∈ u_ws RX2 TX2 10, w ∈ wsX2_mergeNode := by decide +kernel
  have hl := lv_entry ([.ref (gA G 139), .ref (gA G (129 + 5 * i)), .int (nI n), .int (nI a), .int (nI b)]) (n := 10) (Nat.le_of_ble_eq_true rfl)
  rw [lg_entry_eq]
  generalize (lg_sl ([.ref (gA G 139), .ref (gA G (129 + 5 * i)), .int (nI n), .int (nI a), .int (nI b)]) ++ List.replicate (10 - (lg_sl ([.ref (gA G 139), .ref (gA G (129 + 5 * i)), .int (nI n), .int (nI a), .int (nI b)])).length) Slot.unset).toArray = ls at hl ⊢
  have hl : lv_has ls 10 [(0, .ref (gA G 139)), (1, .ref (gA G (129 + 5 * i))), (2, .int (nI n)), (3, .int (nI a)), (4, .int (nI b))] := hl
  have LP : ∀ (k : Nat) (w : Nat) (Q : SS) (H : Heap) (locs : List Loc), (cW G Q H) → (va_S (gF G s.heap.size) s.heap H locs) → (Q.1 139 4 = nI rc) → (w + k = 3) → ∀ (ls : Array Slot), lv_has ls 10 [(0, .ref (gA G 139)), (1, .ref (gA G (129 + 5 * i))), (2, .int (nI n)), (3, .int (nI a)), (4, .int (nI b)), (5, .int (nI w))] → W p l e (headSpec wsX2_mergeNode ({ frames := 3, cells := 0, slots := 0, locals := 77 } : Room)).room s m ([.ref (gA G 139), .ref (gA G (129 + 5 * i)), .int (nI n), .int (nI a), .int (nI b)] : List Value).toArray below meth c H locs 0 0 (MQ below (va_Qv (fun S' => S' = mnW rc i n a b k w Q) (cB G) (gF G s.heap.size)) ([.ref (gA G 139), .ref (gA G (129 + 5 * i)), .int (nI n), .int (nI a), .int (nI b)] : List Value).toArray s 0 0 (gF G s.heap.size)) (F0 m 12 ls []) := by
    intro k
    induction k with
    | zero =>
      intro w Q H locs hW hS hq h2 ls hl
      refine lv_iload hx hb dX2_mergeNode_12 (lv_at hl 5 rfl) ?_
      refine lv_iconst (v := nI 3) hx hb dX2_mergeNode_14 (by decide) ?_
      refine nv_icmp_ge (tgt := 156) hx hb (by omega) (by omega) dX2_mergeNode_15 (by decide) (fun c_15 => ?_) (fun c_15 => ?_)
      · exact W.vret hx hb hr (fun t9 ht9 _ => ⟨⟨Q, rfl, rfl, (show cW G Q t9.heap by rw [ht9]; exact hW)⟩, hS.F ht9⟩) hS.2.2 dX2_mergeNode_156
      · exact absurd c_15 (by omega)
    | succ k ih =>
      intro w Q H locs hW hS hq h2 ls hl
      refine lv_iload hx hb dX2_mergeNode_12 (lv_at hl 5 rfl) ?_
      refine lv_iconst (v := nI 3) hx hb dX2_mergeNode_14 (by decide) ?_
      refine nv_icmp_ge (tgt := 156) hx hb (by omega) (by omega) dX2_mergeNode_15 (by decide) (fun c_15 => ?_) (fun c_15 => ?_)
      · exact absurd c_15 (by omega)
      · refine lv_aload_n hx hb dX2_mergeNode_18 rfl (lv_at hl 0 rfl) ?_
        refine lv_iload_n hx hb dX2_mergeNode_19 rfl (lv_at hl 2 rfl) ?_
        refine lv_iload hx hb dX2_mergeNode_20 (lv_at hl 5 rfl) ?_
        refine lv_iload_n hx hb dX2_mergeNode_22 rfl (lv_at hl 3 rfl) ?_
        refine lv_iload hx hb dX2_mergeNode_23 (lv_at hl 4 rfl) ?_
        refine pv_i (va_runV (As := [.int (nI n), .int (nI w), .int (nI a), .int (nI b)]) (rest := []) ⟨hx, hb, hml, hown, hts⟩ (k_X2_ownSide l G Q (n := n) (w := w) (a := a) (b := b) (by omega) (by omega) (by omega) (by omega)) (cwV 4 hts gX2_mergeNode_X2_ownSide rfl rfl rfl (by decide +kernel) ⟨Nat.le_of_ble_eq_true rfl, Nat.le_of_ble_eq_true rfl⟩) ⟨cP_blind, c_recv hW hK (k := 139) (ci := 2) cw_O rfl, cP_at hW hK hS⟩ rfl rfl hl.1 rfl (lv_room (Nat.le_of_ble_eq_true rfl)) dX2_mergeNode_25 ⟨Nat.le_of_ble_eq_true rfl, Nat.le_of_ble_eq_true rfl⟩) (fun r_1 hr_1 => ?_)
        have hr_1 : r_1 = osI Q n w a b := hr_1
        subst hr_1
        refine lv_istore (lv' := [(6, .int (osI Q n w a b)), (0, .ref (gA G 139)), (1, .ref (gA G (129 + 5 * i))), (2, .int (nI n)), (3, .int (nI a)), (4, .int (nI b)), (5, .int (nI w))]) hx hb dX2_mergeNode_28 hl (by decide) rfl (fun ls hl => ?_)
        refine lv_aload_n hx hb dX2_mergeNode_30 rfl (lv_at hl 2 rfl) ?_
        refine va_get (D := gD G) (ci := 0) (v := .ref (gA G (131 + 5 * i))) (C := RX0) (T := TX0) (N := 10) hx hb hts inX0 hown hK.1 hW (129 + 5 * i) (cw_P (i := i) (by omega)) rfl 5 (by decide) (hts (.fieldLink RX2 165 "MarkedTrees$Peer" "decisions" "[I") (by decide +kernel)) (fun _ h9 => h9) rfl dX2_mergeNode_31 ?_
        refine lv_iload_n hx hb dX2_mergeNode_34 rfl (lv_at hl 3 rfl) ?_
        refine lv_iload hx hb dX2_mergeNode_35 (lv_at hl 6 rfl) ?_
        refine pv_i (va_runS (As := [.int (nI n), .int (nI w)]) (rest := [.ref (gA G (131 + 5 * i))]) ⟨hx, hb, hml, hown, hts⟩ (k_X2_slot l n w) (va_cwS 2 hts gX2_mergeNode_X2_slot rfl rfl rfl (by decide +kernel) ⟨Nat.le_of_ble_eq_true rfl, Nat.le_of_ble_eq_true rfl⟩) ⟨(fun _ _ _ _ h => h), fun U _ _ => ⟨rfl, trivial⟩⟩ rfl rfl hl.1 rfl (lv_room (Nat.le_of_ble_eq_true rfl)) dX2_mergeNode_37 ⟨Nat.le_of_ble_eq_true rfl, Nat.le_of_ble_eq_true rfl⟩) (fun r_2 hr_2 => ?_)
        have hr_2 : r_2 = nI (n * 3 + w) := hr_2
        subst hr_2
        refine nv_iald hx hb hK.1 hW (131 + 5 * i) 0 (cw_D (i := i) (by omega)) rfl (i := n * 3 + w) (by omega) (by decide) dX2_mergeNode_40 ?_
        refine lv_istore (lv' := [(7, .int (Q.1 (131 + 5 * i) (n * 3 + w))), (6, .int (osI Q n w a b)), (0, .ref (gA G 139)), (1, .ref (gA G (129 + 5 * i))), (2, .int (nI n)), (3, .int (nI a)), (4, .int (nI b)), (5, .int (nI w))]) hx hb dX2_mergeNode_41 hl (by decide) rfl (fun ls hl => ?_)
        refine lv_iload hx hb dX2_mergeNode_43 (lv_at hl 0 rfl) ?_
        refine lv_iconst (v := (-1)) hx hb dX2_mergeNode_45 (by decide) ?_
        refine lv_icmp_ne (tgt := 54) hx hb dX2_mergeNode_46 (by decide) (fun c_46 => ?_) (fun c_46 => ?_)
        · refine lv_iload hx hb dX2_mergeNode_54 (lv_at hl 0 rfl) ?_
          refine lv_istore (lv' := [(8, .int (Q.1 (131 + 5 * i) (n * 3 + w))), (7, .int (Q.1 (131 + 5 * i) (n * 3 + w))), (6, .int (osI Q n w a b)), (0, .ref (gA G 139)), (1, .ref (gA G (129 + 5 * i))), (2, .int (nI n)), (3, .int (nI a)), (4, .int (nI b)), (5, .int (nI w))]) hx hb dX2_mergeNode_56 hl (by decide) rfl (fun ls hl => ?_)
          refine lv_iload hx hb dX2_mergeNode_58 (lv_at hl 0 rfl) ?_
          refine lv_iconst (v := (-1)) hx hb dX2_mergeNode_60 (by decide) ?_
          refine lv_icmp_ne (tgt := 84) hx hb dX2_mergeNode_61 (by decide) (fun c_61 => ?_) (fun c_61 => ?_)
          · refine lv_iload hx hb dX2_mergeNode_84 (lv_at hl 0 rfl) ?_
            refine lv_iconst (v := nI 1) hx hb dX2_mergeNode_86 (by decide) ?_
            refine lv_icmp_ne (tgt := 100) hx hb dX2_mergeNode_87 (by decide) (fun c_87 => ?_) (fun c_87 => ?_)
            · refine lv_aload_n hx hb dX2_mergeNode_100 rfl (lv_at hl 3 rfl) ?_
              refine va_get (D := gD G) (ci := 2) (v := .ref (gA G 140)) (C := RX2) (T := TX2) (N := 10) hx hb hts inX2 hown hK.1 hW 139 cw_O rfl 2 (by decide) (hts (.fieldLink RX2 21 "MarkedTrees" "trees" "[LMarkedTrees$Tree;") (by decide +kernel)) (fun _ h9 => h9) rfl dX2_mergeNode_101 ?_
              refine lv_iload_n hx hb dX2_mergeNode_104 rfl (lv_at hl 6 rfl) ?_
              refine nv_aald hx hb hK.1 hW 140 3 cw_R rfl (i := a) (b := gA G (3 * a)) (by omega) (by decide) rfl dX2_mergeNode_105 ?_
              refine lv_astore (lv' := [(9, .ref (gA G (3 * a))), (8, .int (Q.1 (131 + 5 * i) (n * 3 + w))), (7, .int (Q.1 (131 + 5 * i) (n * 3 + w))), (6, .int (osI Q n w a b)), (0, .ref (gA G 139)), (1, .ref (gA G (129 + 5 * i))), (2, .int (nI n)), (3, .int (nI a)), (4, .int (nI b)), (5, .int (nI w))]) hx hb dX2_mergeNode_106 hl (by decide) rfl (fun ls hl => ?_)
              refine lv_aload_n hx hb dX2_mergeNode_108 rfl (lv_at hl 4 rfl) ?_
              refine va_get (D := gD G) (ci := 2) (v := .ref (gA G (3 * 40))) (C := RX2) (T := TX2) (N := 10) hx hb hts inX2 hown hK.1 hW 139 cw_O rfl 8 (by decide) (hts (.fieldLink RX2 44 "MarkedTrees" "merged" "LMarkedTrees$Tree;") (by decide +kernel)) (fun _ h9 => h9) rfl dX2_mergeNode_109 ?_
              refine lv_iload_n hx hb dX2_mergeNode_112 rfl (lv_at hl 6 rfl) ?_
              refine lv_iload hx hb dX2_mergeNode_113 (lv_at hl 9 rfl) ?_
              refine lv_aload hx hb dX2_mergeNode_115 (lv_at hl 0 rfl) ?_
              refine lv_iload_n hx hb dX2_mergeNode_117 rfl (lv_at hl 6 rfl) ?_
              refine lv_iload hx hb dX2_mergeNode_118 (lv_at hl 9 rfl) ?_
              refine pv_i (va_runV (As := [.int (nI n), .int (nI w)]) (rest := [.int (nI w), .int (nI n), .ref (gA G (3 * 40))]) ⟨hx, hb, hml, hown, hts⟩ (k_X1_valueOf l G Q (t := a) (by omega) (n := n) (w := w) (by omega) (by omega)) (cwV 2 hts gX2_mergeNode_X1_valueOf rfl rfl rfl (by decide +kernel) ⟨Nat.le_of_ble_eq_true rfl, Nat.le_of_ble_eq_true rfl⟩) ⟨cP_blind, c_recv hW hK (k := (3 * a)) (ci := 1) (cw_T (t := a) (by omega)) rfl, cP_at hW hK hS⟩ rfl rfl hl.1 rfl (lv_room (Nat.le_of_ble_eq_true rfl)) dX2_mergeNode_120 ⟨Nat.le_of_ble_eq_true rfl, Nat.le_of_ble_eq_true rfl⟩) (fun r_3 hr_3 => ?_)
              have hr_3 : r_3 = Q.1 (3 * a + 1) (n * 3 + w) := hr_3
              subst hr_3
              refine ev_v (va_runV (As := [.int (nI n), .int (nI w), .int (Q.1 (3 * a + 1) (n * 3 + w))]) (rest := []) ⟨hx, hb, hml, hown, hts⟩ (k_X1_setValue l G Q H.size (t := 40) (by omega) (n := n) (w := w) (by omega) (by omega) (Q.1 (3 * a + 1) (n * 3 + w))) (cwV 3 hts gX2_mergeNode_X1_setValue rfl rfl rfl (by decide +kernel) ⟨Nat.le_of_ble_eq_true rfl, Nat.le_of_ble_eq_true rfl⟩) ⟨cQ_blind, c_recv hW hK (k := (3 * 40)) (ci := 1) (cw_T (t := 40) (by omega)) rfl, cQ_at hW hK hS⟩ rfl rfl hl.1 rfl (lv_room (Nat.le_of_ble_eq_true rfl)) dX2_mergeNode_123 ⟨Nat.le_of_ble_eq_true rfl, Nat.le_of_ble_eq_true rfl⟩) hS (fun S_4 t9 H locs ht9 hS_4 hW hS => ?_)
              have hW : cW G S_4 H := ht9 ▸ hW
              have hrc_S_4 : S_4.1 139 4 = nI rc := by rw [hS_4, s1_ne _ _ _ _ (by omega)]; exact hq
              refine lv_aload_n hx hb dX2_mergeNode_126 rfl (lv_at hl 4 rfl) ?_
              refine va_get (D := gD G) (ci := 2) (v := .ref (gA G (3 * 40))) (C := RX2) (T := TX2) (N := 10) hx hb hts inX2 hown hK.1 hW 139 cw_O rfl 8 (by decide) (hts (.fieldLink RX2 44 "MarkedTrees" "merged" "LMarkedTrees$Tree;") (by decide +kernel)) (fun _ h9 => h9) rfl dX2_mergeNode_127 ?_
              refine lv_iload_n hx hb dX2_mergeNode_130 rfl (lv_at hl 6 rfl) ?_
              refine lv_iload hx hb dX2_mergeNode_131 (lv_at hl 9 rfl) ?_
              refine lv_aload_n hx hb dX2_mergeNode_133 rfl (lv_at hl 4 rfl) ?_
              refine lv_iload_n hx hb dX2_mergeNode_134 rfl (lv_at hl 6 rfl) ?_
              refine lv_iload hx hb dX2_mergeNode_135 (lv_at hl 9 rfl) ?_
              refine lv_iload_n hx hb dX2_mergeNode_137 rfl (lv_at hl 7 rfl) ?_
              refine lv_iload hx hb dX2_mergeNode_138 (lv_at hl 8 rfl) ?_
              refine lv_iload hx hb dX2_mergeNode_140 (lv_at hl 3 rfl) ?_
              refine lv_iload hx hb dX2_mergeNode_142 (lv_at hl 1 rfl) ?_
              refine pv_l (va_runV (As := [.int (nI n), .int (nI w), .int (nI a), .int (nI b), .int (osI Q n w a b), .int (Q.1 (131 + 5 * i) (n * 3 + w))]) (rest := [.int (nI w), .int (nI n), .ref (gA G (3 * 40))]) ⟨hx, hb, hml, hown, hts⟩ (k_X2_mergedMarks l G S_4 (rc := rc) hrc_S_4 (by omega) (n := n) (w := w) (a := a) (b := b) (by omega) (by omega) (by omega) (by omega) (osI Q n w a b) (Q.1 (131 + 5 * i) (n * 3 + w))) (cwV 6 hts gX2_mergeNode_X2_mergedMarks rfl rfl rfl (by decide +kernel) ⟨Nat.le_of_ble_eq_true rfl, Nat.le_of_ble_eq_true rfl⟩) ⟨cP_blind, c_recv hW hK (k := 139) (ci := 2) cw_O rfl, cP_at hW hK hS⟩ rfl rfl hl.1 rfl (lv_room (Nat.le_of_ble_eq_true rfl)) dX2_mergeNode_144 ⟨Nat.le_of_ble_eq_true rfl, Nat.le_of_ble_eq_true rfl⟩) (fun r_5 hr_5 => ?_)
              have hr_5 : r_5 = mmI S_4 rc n w a b (osI Q n w a b) (Q.1 (131 + 5 * i) (n * 3 + w)) := hr_5
              subst hr_5
              refine ev_v (va_runV (As := [.int (nI n), .int (nI w), .long (mmI S_4 rc n w a b (osI Q n w a b) (Q.1 (131 + 5 * i) (n * 3 + w)))]) (rest := []) ⟨hx, hb, hml, hown, hts⟩ (k_X1_setMarks l G S_4 H.size (t := 40) (by omega) (n := n) (w := w) (by omega) (by omega) (mmI S_4 rc n w a b (osI Q n w a b) (Q.1 (131 + 5 * i) (n * 3 + w)))) (cwV 3 hts gX2_mergeNode_X1_setMarks rfl rfl rfl (by decide +kernel) ⟨Nat.le_of_ble_eq_true rfl, Nat.le_of_ble_eq_true rfl⟩) ⟨cQ_blind, c_recv hW hK (k := (3 * 40)) (ci := 1) (cw_T (t := 40) (by omega)) rfl, cQ_at hW hK hS⟩ rfl rfl hl.1 rfl (lv_room (Nat.le_of_ble_eq_true rfl)) dX2_mergeNode_147 ⟨Nat.le_of_ble_eq_true rfl, Nat.le_of_ble_eq_true rfl⟩) hS (fun S_6 t9 H locs ht9 hS_6 hW hS => ?_)
              have hW : cW G S_6 H := ht9 ▸ hW
              refine lv_iinc (v := nI (w + 1)) (lv' := [(5, .int (nI (w + 1))), (9, .ref (gA G (3 * a))), (8, .int (Q.1 (131 + 5 * i) (n * 3 + w))), (7, .int (Q.1 (131 + 5 * i) (n * 3 + w))), (6, .int (osI Q n w a b)), (0, .ref (gA G 139)), (1, .ref (gA G (129 + 5 * i))), (2, .int (nI n)), (3, .int (nI a)), (4, .int (nI b))]) hx hb dX2_mergeNode_150 hl (k := 9) rfl (nI_add w 1) (by decide) rfl (fun ls hl => ?_)
              refine lv_goto (tgt := 12) hx hb dX2_mergeNode_153 (by decide) ?_
              have E : mnW rc i n a b (k + 1) w Q = mnW rc i n a b k (w + 1) S_6 := by subst_vars; rw [mnW, mn1, mnSide, if_neg c_46, if_neg c_61, if_neg c_87]; rfl
              rw [E]
              have hq9 : S_6.1 139 4 = nI rc := by rw [hS_6]; exact hrc_S_4
              exact ih (w + 1) S_6 H locs hW hS hq9 (by omega) ls (lv_sub hl [5, 6, 7, 8, 9, 0] rfl)
            · refine lv_aload_n hx hb dX2_mergeNode_90 rfl (lv_at hl 3 rfl) ?_
              refine va_get (D := gD G) (ci := 2) (v := .ref (gA G 140)) (C := RX2) (T := TX2) (N := 10) hx hb hts inX2 hown hK.1 hW 139 cw_O rfl 2 (by decide) (hts (.fieldLink RX2 21 "MarkedTrees" "trees" "[LMarkedTrees$Tree;") (by decide +kernel)) (fun _ h9 => h9) rfl dX2_mergeNode_91 ?_
              refine lv_iload hx hb dX2_mergeNode_94 (lv_at hl 7 rfl) ?_
              refine nv_aald hx hb hK.1 hW 140 3 cw_R rfl (i := b) (b := gA G (3 * b)) (by omega) (by decide) rfl dX2_mergeNode_96 ?_
              refine lv_goto (tgt := 106) hx hb dX2_mergeNode_97 (by decide) ?_
              refine lv_astore (lv' := [(9, .ref (gA G (3 * b))), (8, .int (Q.1 (131 + 5 * i) (n * 3 + w))), (7, .int (Q.1 (131 + 5 * i) (n * 3 + w))), (6, .int (osI Q n w a b)), (0, .ref (gA G 139)), (1, .ref (gA G (129 + 5 * i))), (2, .int (nI n)), (3, .int (nI a)), (4, .int (nI b)), (5, .int (nI w))]) hx hb dX2_mergeNode_106 hl (by decide) rfl (fun ls hl => ?_)
              refine lv_aload_n hx hb dX2_mergeNode_108 rfl (lv_at hl 4 rfl) ?_
              refine va_get (D := gD G) (ci := 2) (v := .ref (gA G (3 * 40))) (C := RX2) (T := TX2) (N := 10) hx hb hts inX2 hown hK.1 hW 139 cw_O rfl 8 (by decide) (hts (.fieldLink RX2 44 "MarkedTrees" "merged" "LMarkedTrees$Tree;") (by decide +kernel)) (fun _ h9 => h9) rfl dX2_mergeNode_109 ?_
              refine lv_iload_n hx hb dX2_mergeNode_112 rfl (lv_at hl 6 rfl) ?_
              refine lv_iload hx hb dX2_mergeNode_113 (lv_at hl 9 rfl) ?_
              refine lv_aload hx hb dX2_mergeNode_115 (lv_at hl 0 rfl) ?_
              refine lv_iload_n hx hb dX2_mergeNode_117 rfl (lv_at hl 6 rfl) ?_
              refine lv_iload hx hb dX2_mergeNode_118 (lv_at hl 9 rfl) ?_
              refine pv_i (va_runV (As := [.int (nI n), .int (nI w)]) (rest := [.int (nI w), .int (nI n), .ref (gA G (3 * 40))]) ⟨hx, hb, hml, hown, hts⟩ (k_X1_valueOf l G Q (t := b) (by omega) (n := n) (w := w) (by omega) (by omega)) (cwV 2 hts gX2_mergeNode_X1_valueOf rfl rfl rfl (by decide +kernel) ⟨Nat.le_of_ble_eq_true rfl, Nat.le_of_ble_eq_true rfl⟩) ⟨cP_blind, c_recv hW hK (k := (3 * b)) (ci := 1) (cw_T (t := b) (by omega)) rfl, cP_at hW hK hS⟩ rfl rfl hl.1 rfl (lv_room (Nat.le_of_ble_eq_true rfl)) dX2_mergeNode_120 ⟨Nat.le_of_ble_eq_true rfl, Nat.le_of_ble_eq_true rfl⟩) (fun r_7 hr_7 => ?_)
              have hr_7 : r_7 = Q.1 (3 * b + 1) (n * 3 + w) := hr_7
              subst hr_7
              refine ev_v (va_runV (As := [.int (nI n), .int (nI w), .int (Q.1 (3 * b + 1) (n * 3 + w))]) (rest := []) ⟨hx, hb, hml, hown, hts⟩ (k_X1_setValue l G Q H.size (t := 40) (by omega) (n := n) (w := w) (by omega) (by omega) (Q.1 (3 * b + 1) (n * 3 + w))) (cwV 3 hts gX2_mergeNode_X1_setValue rfl rfl rfl (by decide +kernel) ⟨Nat.le_of_ble_eq_true rfl, Nat.le_of_ble_eq_true rfl⟩) ⟨cQ_blind, c_recv hW hK (k := (3 * 40)) (ci := 1) (cw_T (t := 40) (by omega)) rfl, cQ_at hW hK hS⟩ rfl rfl hl.1 rfl (lv_room (Nat.le_of_ble_eq_true rfl)) dX2_mergeNode_123 ⟨Nat.le_of_ble_eq_true rfl, Nat.le_of_ble_eq_true rfl⟩) hS (fun S_8 t9 H locs ht9 hS_8 hW hS => ?_)
              have hW : cW G S_8 H := ht9 ▸ hW
              have hrc_S_8 : S_8.1 139 4 = nI rc := by rw [hS_8, s1_ne _ _ _ _ (by omega)]; exact hq
              refine lv_aload_n hx hb dX2_mergeNode_126 rfl (lv_at hl 4 rfl) ?_
              refine va_get (D := gD G) (ci := 2) (v := .ref (gA G (3 * 40))) (C := RX2) (T := TX2) (N := 10) hx hb hts inX2 hown hK.1 hW 139 cw_O rfl 8 (by decide) (hts (.fieldLink RX2 44 "MarkedTrees" "merged" "LMarkedTrees$Tree;") (by decide +kernel)) (fun _ h9 => h9) rfl dX2_mergeNode_127 ?_
              refine lv_iload_n hx hb dX2_mergeNode_130 rfl (lv_at hl 6 rfl) ?_
              refine lv_iload hx hb dX2_mergeNode_131 (lv_at hl 9 rfl) ?_
              refine lv_aload_n hx hb dX2_mergeNode_133 rfl (lv_at hl 4 rfl) ?_
              refine lv_iload_n hx hb dX2_mergeNode_134 rfl (lv_at hl 6 rfl) ?_
              refine lv_iload hx hb dX2_mergeNode_135 (lv_at hl 9 rfl) ?_
              refine lv_iload_n hx hb dX2_mergeNode_137 rfl (lv_at hl 7 rfl) ?_
              refine lv_iload hx hb dX2_mergeNode_138 (lv_at hl 8 rfl) ?_
              refine lv_iload hx hb dX2_mergeNode_140 (lv_at hl 3 rfl) ?_
              refine lv_iload hx hb dX2_mergeNode_142 (lv_at hl 1 rfl) ?_
              refine pv_l (va_runV (As := [.int (nI n), .int (nI w), .int (nI a), .int (nI b), .int (osI Q n w a b), .int (Q.1 (131 + 5 * i) (n * 3 + w))]) (rest := [.int (nI w), .int (nI n), .ref (gA G (3 * 40))]) ⟨hx, hb, hml, hown, hts⟩ (k_X2_mergedMarks l G S_8 (rc := rc) hrc_S_8 (by omega) (n := n) (w := w) (a := a) (b := b) (by omega) (by omega) (by omega) (by omega) (osI Q n w a b) (Q.1 (131 + 5 * i) (n * 3 + w))) (cwV 6 hts gX2_mergeNode_X2_mergedMarks rfl rfl rfl (by decide +kernel) ⟨Nat.le_of_ble_eq_true rfl, Nat.le_of_ble_eq_true rfl⟩) ⟨cP_blind, c_recv hW hK (k := 139) (ci := 2) cw_O rfl, cP_at hW hK hS⟩ rfl rfl hl.1 rfl (lv_room (Nat.le_of_ble_eq_true rfl)) dX2_mergeNode_144 ⟨Nat.le_of_ble_eq_true rfl, Nat.le_of_ble_eq_true rfl⟩) (fun r_9 hr_9 => ?_)
              have hr_9 : r_9 = mmI S_8 rc n w a b (osI Q n w a b) (Q.1 (131 + 5 * i) (n * 3 + w)) := hr_9
              subst hr_9
              refine ev_v (va_runV (As := [.int (nI n), .int (nI w), .long (mmI S_8 rc n w a b (osI Q n w a b) (Q.1 (131 + 5 * i) (n * 3 + w)))]) (rest := []) ⟨hx, hb, hml, hown, hts⟩ (k_X1_setMarks l G S_8 H.size (t := 40) (by omega) (n := n) (w := w) (by omega) (by omega) (mmI S_8 rc n w a b (osI Q n w a b) (Q.1 (131 + 5 * i) (n * 3 + w)))) (cwV 3 hts gX2_mergeNode_X1_setMarks rfl rfl rfl (by decide +kernel) ⟨Nat.le_of_ble_eq_true rfl, Nat.le_of_ble_eq_true rfl⟩) ⟨cQ_blind, c_recv hW hK (k := (3 * 40)) (ci := 1) (cw_T (t := 40) (by omega)) rfl, cQ_at hW hK hS⟩ rfl rfl hl.1 rfl (lv_room (Nat.le_of_ble_eq_true rfl)) dX2_mergeNode_147 ⟨Nat.le_of_ble_eq_true rfl, Nat.le_of_ble_eq_true rfl⟩) hS (fun S_10 t9 H locs ht9 hS_10 hW hS => ?_)
              have hW : cW G S_10 H := ht9 ▸ hW
              refine lv_iinc (v := nI (w + 1)) (lv' := [(5, .int (nI (w + 1))), (9, .ref (gA G (3 * b))), (8, .int (Q.1 (131 + 5 * i) (n * 3 + w))), (7, .int (Q.1 (131 + 5 * i) (n * 3 + w))), (6, .int (osI Q n w a b)), (0, .ref (gA G 139)), (1, .ref (gA G (129 + 5 * i))), (2, .int (nI n)), (3, .int (nI a)), (4, .int (nI b))]) hx hb dX2_mergeNode_150 hl (k := 9) rfl (nI_add w 1) (by decide) rfl (fun ls hl => ?_)
              refine lv_goto (tgt := 12) hx hb dX2_mergeNode_153 (by decide) ?_
              have E : mnW rc i n a b (k + 1) w Q = mnW rc i n a b k (w + 1) S_10 := by subst_vars; rw [mnW, mn1, mnSide, if_neg c_46, if_neg c_61, if_pos c_87]; rfl
              rw [E]
              have hq9 : S_10.1 139 4 = nI rc := by rw [hS_10]; exact hrc_S_8
              exact ih (w + 1) S_10 H locs hW hS hq9 (by omega) ls (lv_sub hl [5, 6, 7, 8, 9, 0] rfl)
          · refine lv_aload_n hx hb dX2_mergeNode_64 rfl (lv_at hl 3 rfl) ?_
            refine lv_dup hx hb dX2_mergeNode_65 rfl ?_
            refine va_get (D := gD G) (ci := 2) (v := .long (Q.2 139 9)) (C := RX2) (T := TX2) (N := 10) hx hb hts inX2 hown hK.1 hW 139 cw_O rfl 9 (by decide) (hts (.fieldLink RX2 301 "MarkedTrees" "undecided" "J") (by decide +kernel)) (fun _ h9 => h9) rfl dX2_mergeNode_66 ?_
            refine lv_lconst (v := 1) hx hb dX2_mergeNode_69 (by decide) ?_
            refine lv_iload_n hx hb dX2_mergeNode_70 rfl (lv_at hl 5 rfl) ?_
            refine lv_iload hx hb dX2_mergeNode_71 (lv_at hl 8 rfl) ?_
            refine pv_i (va_runS (As := [.int (nI n), .int (nI w)]) (rest := [.long 1, .long (Q.2 139 9), .ref (gA G 139)]) ⟨hx, hb, hml, hown, hts⟩ (k_X2_slot l n w) (va_cwS 2 hts gX2_mergeNode_X2_slot rfl rfl rfl (by decide +kernel) ⟨Nat.le_of_ble_eq_true rfl, Nat.le_of_ble_eq_true rfl⟩) ⟨(fun _ _ _ _ h => h), fun U _ _ => ⟨rfl, trivial⟩⟩ rfl rfl hl.1 rfl (lv_room (Nat.le_of_ble_eq_true rfl)) dX2_mergeNode_73 ⟨Nat.le_of_ble_eq_true rfl, Nat.le_of_ble_eq_true rfl⟩) (fun r_11 hr_11 => ?_)
            have hr_11 : r_11 = nI (n * 3 + w) := hr_11
            subst hr_11
            refine lv_lshl (v := 1 <<< ((nI (n * 3 + w)).toInt64 &&& 63)) hx hb dX2_mergeNode_76 rfl ?_
            refine lv_lor hx hb dX2_mergeNode_77 ?_
            refine va_put (D := gD G) (ci := 2) (v := .long ((Q.2 139 9) ||| (1 <<< ((nI (n * 3 + w)).toInt64 &&& 63)))) (ty := .long) (C := RX2) (T := TX2) (N := 10) hx hb hts inX2 tyX2 tyX2_ok nmX2 hown hK.1 hW (wl_D hK.2.1) hS 139 cw_O rfl 9 (by decide) (hts (.fieldLink RX2 301 "MarkedTrees" "undecided" "J") (by decide +kernel)) (fun _ h9 => h9) rfl (by decide +kernel) rfl rfl (Nat.le_of_ble_eq_true rfl) dX2_mergeNode_78 (fun H locs hW _ hS => ?_)
            have hW : cW G (s2 Q 139 9 ((Q.2 139 9) ||| (1 <<< ((nI (n * 3 + w)).toInt64 &&& 63)))) H := cp_O_9 hW
            obtain ⟨S_12, eS_12⟩ : ∃ z, z = s2 Q 139 9 ((Q.2 139 9) ||| (1 <<< ((nI (n * 3 + w)).toInt64 &&& 63))) := ⟨_, rfl⟩
            rw [← eS_12] at hW
            refine lv_goto (tgt := 150) hx hb dX2_mergeNode_81 (by decide) ?_
            refine lv_iinc (v := nI (w + 1)) (lv' := [(5, .int (nI (w + 1))), (8, .int (Q.1 (131 + 5 * i) (n * 3 + w))), (7, .int (Q.1 (131 + 5 * i) (n * 3 + w))), (6, .int (osI Q n w a b)), (0, .ref (gA G 139)), (1, .ref (gA G (129 + 5 * i))), (2, .int (nI n)), (3, .int (nI a)), (4, .int (nI b))]) hx hb dX2_mergeNode_150 hl (k := 8) rfl (nI_add w 1) (by decide) rfl (fun ls hl => ?_)
            refine lv_goto (tgt := 12) hx hb dX2_mergeNode_153 (by decide) ?_
            have E : mnW rc i n a b (k + 1) w Q = mnW rc i n a b k (w + 1) S_12 := by subst_vars; rw [mnW, mn1, mnSide, if_neg c_46, if_pos c_61]; rfl
            rw [E]
            have hq9 : S_12.1 139 4 = nI rc := by rw [eS_12]; exact hq
            exact ih (w + 1) S_12 H locs hW hS hq9 (by omega) ls (lv_sub hl [4, 5, 6, 7, 8, 0] rfl)
        · refine lv_iload hx hb dX2_mergeNode_49 (lv_at hl 1 rfl) ?_
          refine lv_goto (tgt := 56) hx hb dX2_mergeNode_51 (by decide) ?_
          refine lv_istore (lv' := [(8, .int (osI Q n w a b)), (7, .int (Q.1 (131 + 5 * i) (n * 3 + w))), (6, .int (osI Q n w a b)), (0, .ref (gA G 139)), (1, .ref (gA G (129 + 5 * i))), (2, .int (nI n)), (3, .int (nI a)), (4, .int (nI b)), (5, .int (nI w))]) hx hb dX2_mergeNode_56 hl (by decide) rfl (fun ls hl => ?_)
          refine lv_iload hx hb dX2_mergeNode_58 (lv_at hl 0 rfl) ?_
          refine lv_iconst (v := (-1)) hx hb dX2_mergeNode_60 (by decide) ?_
          refine lv_icmp_ne (tgt := 84) hx hb dX2_mergeNode_61 (by decide) (fun c_61 => ?_) (fun c_61 => ?_)
          · refine lv_iload hx hb dX2_mergeNode_84 (lv_at hl 0 rfl) ?_
            refine lv_iconst (v := nI 1) hx hb dX2_mergeNode_86 (by decide) ?_
            refine lv_icmp_ne (tgt := 100) hx hb dX2_mergeNode_87 (by decide) (fun c_87 => ?_) (fun c_87 => ?_)
            · refine lv_aload_n hx hb dX2_mergeNode_100 rfl (lv_at hl 3 rfl) ?_
              refine va_get (D := gD G) (ci := 2) (v := .ref (gA G 140)) (C := RX2) (T := TX2) (N := 10) hx hb hts inX2 hown hK.1 hW 139 cw_O rfl 2 (by decide) (hts (.fieldLink RX2 21 "MarkedTrees" "trees" "[LMarkedTrees$Tree;") (by decide +kernel)) (fun _ h9 => h9) rfl dX2_mergeNode_101 ?_
              refine lv_iload_n hx hb dX2_mergeNode_104 rfl (lv_at hl 6 rfl) ?_
              refine nv_aald hx hb hK.1 hW 140 3 cw_R rfl (i := a) (b := gA G (3 * a)) (by omega) (by decide) rfl dX2_mergeNode_105 ?_
              refine lv_astore (lv' := [(9, .ref (gA G (3 * a))), (8, .int (osI Q n w a b)), (7, .int (Q.1 (131 + 5 * i) (n * 3 + w))), (6, .int (osI Q n w a b)), (0, .ref (gA G 139)), (1, .ref (gA G (129 + 5 * i))), (2, .int (nI n)), (3, .int (nI a)), (4, .int (nI b)), (5, .int (nI w))]) hx hb dX2_mergeNode_106 hl (by decide) rfl (fun ls hl => ?_)
              refine lv_aload_n hx hb dX2_mergeNode_108 rfl (lv_at hl 4 rfl) ?_
              refine va_get (D := gD G) (ci := 2) (v := .ref (gA G (3 * 40))) (C := RX2) (T := TX2) (N := 10) hx hb hts inX2 hown hK.1 hW 139 cw_O rfl 8 (by decide) (hts (.fieldLink RX2 44 "MarkedTrees" "merged" "LMarkedTrees$Tree;") (by decide +kernel)) (fun _ h9 => h9) rfl dX2_mergeNode_109 ?_
              refine lv_iload_n hx hb dX2_mergeNode_112 rfl (lv_at hl 6 rfl) ?_
              refine lv_iload hx hb dX2_mergeNode_113 (lv_at hl 9 rfl) ?_
              refine lv_aload hx hb dX2_mergeNode_115 (lv_at hl 0 rfl) ?_
              refine lv_iload_n hx hb dX2_mergeNode_117 rfl (lv_at hl 6 rfl) ?_
              refine lv_iload hx hb dX2_mergeNode_118 (lv_at hl 9 rfl) ?_
              refine pv_i (va_runV (As := [.int (nI n), .int (nI w)]) (rest := [.int (nI w), .int (nI n), .ref (gA G (3 * 40))]) ⟨hx, hb, hml, hown, hts⟩ (k_X1_valueOf l G Q (t := a) (by omega) (n := n) (w := w) (by omega) (by omega)) (cwV 2 hts gX2_mergeNode_X1_valueOf rfl rfl rfl (by decide +kernel) ⟨Nat.le_of_ble_eq_true rfl, Nat.le_of_ble_eq_true rfl⟩) ⟨cP_blind, c_recv hW hK (k := (3 * a)) (ci := 1) (cw_T (t := a) (by omega)) rfl, cP_at hW hK hS⟩ rfl rfl hl.1 rfl (lv_room (Nat.le_of_ble_eq_true rfl)) dX2_mergeNode_120 ⟨Nat.le_of_ble_eq_true rfl, Nat.le_of_ble_eq_true rfl⟩) (fun r_13 hr_13 => ?_)
              have hr_13 : r_13 = Q.1 (3 * a + 1) (n * 3 + w) := hr_13
              subst hr_13
              refine ev_v (va_runV (As := [.int (nI n), .int (nI w), .int (Q.1 (3 * a + 1) (n * 3 + w))]) (rest := []) ⟨hx, hb, hml, hown, hts⟩ (k_X1_setValue l G Q H.size (t := 40) (by omega) (n := n) (w := w) (by omega) (by omega) (Q.1 (3 * a + 1) (n * 3 + w))) (cwV 3 hts gX2_mergeNode_X1_setValue rfl rfl rfl (by decide +kernel) ⟨Nat.le_of_ble_eq_true rfl, Nat.le_of_ble_eq_true rfl⟩) ⟨cQ_blind, c_recv hW hK (k := (3 * 40)) (ci := 1) (cw_T (t := 40) (by omega)) rfl, cQ_at hW hK hS⟩ rfl rfl hl.1 rfl (lv_room (Nat.le_of_ble_eq_true rfl)) dX2_mergeNode_123 ⟨Nat.le_of_ble_eq_true rfl, Nat.le_of_ble_eq_true rfl⟩) hS (fun S_14 t9 H locs ht9 hS_14 hW hS => ?_)
              have hW : cW G S_14 H := ht9 ▸ hW
              have hrc_S_14 : S_14.1 139 4 = nI rc := by rw [hS_14, s1_ne _ _ _ _ (by omega)]; exact hq
              refine lv_aload_n hx hb dX2_mergeNode_126 rfl (lv_at hl 4 rfl) ?_
              refine va_get (D := gD G) (ci := 2) (v := .ref (gA G (3 * 40))) (C := RX2) (T := TX2) (N := 10) hx hb hts inX2 hown hK.1 hW 139 cw_O rfl 8 (by decide) (hts (.fieldLink RX2 44 "MarkedTrees" "merged" "LMarkedTrees$Tree;") (by decide +kernel)) (fun _ h9 => h9) rfl dX2_mergeNode_127 ?_
              refine lv_iload_n hx hb dX2_mergeNode_130 rfl (lv_at hl 6 rfl) ?_
              refine lv_iload hx hb dX2_mergeNode_131 (lv_at hl 9 rfl) ?_
              refine lv_aload_n hx hb dX2_mergeNode_133 rfl (lv_at hl 4 rfl) ?_
              refine lv_iload_n hx hb dX2_mergeNode_134 rfl (lv_at hl 6 rfl) ?_
              refine lv_iload hx hb dX2_mergeNode_135 (lv_at hl 9 rfl) ?_
              refine lv_iload_n hx hb dX2_mergeNode_137 rfl (lv_at hl 7 rfl) ?_
              refine lv_iload hx hb dX2_mergeNode_138 (lv_at hl 8 rfl) ?_
              refine lv_iload hx hb dX2_mergeNode_140 (lv_at hl 3 rfl) ?_
              refine lv_iload hx hb dX2_mergeNode_142 (lv_at hl 1 rfl) ?_
              refine pv_l (va_runV (As := [.int (nI n), .int (nI w), .int (nI a), .int (nI b), .int (osI Q n w a b), .int (osI Q n w a b)]) (rest := [.int (nI w), .int (nI n), .ref (gA G (3 * 40))]) ⟨hx, hb, hml, hown, hts⟩ (k_X2_mergedMarks l G S_14 (rc := rc) hrc_S_14 (by omega) (n := n) (w := w) (a := a) (b := b) (by omega) (by omega) (by omega) (by omega) (osI Q n w a b) (osI Q n w a b)) (cwV 6 hts gX2_mergeNode_X2_mergedMarks rfl rfl rfl (by decide +kernel) ⟨Nat.le_of_ble_eq_true rfl, Nat.le_of_ble_eq_true rfl⟩) ⟨cP_blind, c_recv hW hK (k := 139) (ci := 2) cw_O rfl, cP_at hW hK hS⟩ rfl rfl hl.1 rfl (lv_room (Nat.le_of_ble_eq_true rfl)) dX2_mergeNode_144 ⟨Nat.le_of_ble_eq_true rfl, Nat.le_of_ble_eq_true rfl⟩) (fun r_15 hr_15 => ?_)
              have hr_15 : r_15 = mmI S_14 rc n w a b (osI Q n w a b) (osI Q n w a b) := hr_15
              subst hr_15
              refine ev_v (va_runV (As := [.int (nI n), .int (nI w), .long (mmI S_14 rc n w a b (osI Q n w a b) (osI Q n w a b))]) (rest := []) ⟨hx, hb, hml, hown, hts⟩ (k_X1_setMarks l G S_14 H.size (t := 40) (by omega) (n := n) (w := w) (by omega) (by omega) (mmI S_14 rc n w a b (osI Q n w a b) (osI Q n w a b))) (cwV 3 hts gX2_mergeNode_X1_setMarks rfl rfl rfl (by decide +kernel) ⟨Nat.le_of_ble_eq_true rfl, Nat.le_of_ble_eq_true rfl⟩) ⟨cQ_blind, c_recv hW hK (k := (3 * 40)) (ci := 1) (cw_T (t := 40) (by omega)) rfl, cQ_at hW hK hS⟩ rfl rfl hl.1 rfl (lv_room (Nat.le_of_ble_eq_true rfl)) dX2_mergeNode_147 ⟨Nat.le_of_ble_eq_true rfl, Nat.le_of_ble_eq_true rfl⟩) hS (fun S_16 t9 H locs ht9 hS_16 hW hS => ?_)
              have hW : cW G S_16 H := ht9 ▸ hW
              refine lv_iinc (v := nI (w + 1)) (lv' := [(5, .int (nI (w + 1))), (9, .ref (gA G (3 * a))), (8, .int (osI Q n w a b)), (7, .int (Q.1 (131 + 5 * i) (n * 3 + w))), (6, .int (osI Q n w a b)), (0, .ref (gA G 139)), (1, .ref (gA G (129 + 5 * i))), (2, .int (nI n)), (3, .int (nI a)), (4, .int (nI b))]) hx hb dX2_mergeNode_150 hl (k := 9) rfl (nI_add w 1) (by decide) rfl (fun ls hl => ?_)
              refine lv_goto (tgt := 12) hx hb dX2_mergeNode_153 (by decide) ?_
              have E : mnW rc i n a b (k + 1) w Q = mnW rc i n a b k (w + 1) S_16 := by subst_vars; rw [mnW, mn1, mnSide, if_pos c_46, if_neg c_61, if_neg c_87]; rfl
              rw [E]
              have hq9 : S_16.1 139 4 = nI rc := by rw [hS_16]; exact hrc_S_14
              exact ih (w + 1) S_16 H locs hW hS hq9 (by omega) ls (lv_sub hl [5, 6, 7, 8, 9, 0] rfl)
            · refine lv_aload_n hx hb dX2_mergeNode_90 rfl (lv_at hl 3 rfl) ?_
              refine va_get (D := gD G) (ci := 2) (v := .ref (gA G 140)) (C := RX2) (T := TX2) (N := 10) hx hb hts inX2 hown hK.1 hW 139 cw_O rfl 2 (by decide) (hts (.fieldLink RX2 21 "MarkedTrees" "trees" "[LMarkedTrees$Tree;") (by decide +kernel)) (fun _ h9 => h9) rfl dX2_mergeNode_91 ?_
              refine lv_iload hx hb dX2_mergeNode_94 (lv_at hl 7 rfl) ?_
              refine nv_aald hx hb hK.1 hW 140 3 cw_R rfl (i := b) (b := gA G (3 * b)) (by omega) (by decide) rfl dX2_mergeNode_96 ?_
              refine lv_goto (tgt := 106) hx hb dX2_mergeNode_97 (by decide) ?_
              refine lv_astore (lv' := [(9, .ref (gA G (3 * b))), (8, .int (osI Q n w a b)), (7, .int (Q.1 (131 + 5 * i) (n * 3 + w))), (6, .int (osI Q n w a b)), (0, .ref (gA G 139)), (1, .ref (gA G (129 + 5 * i))), (2, .int (nI n)), (3, .int (nI a)), (4, .int (nI b)), (5, .int (nI w))]) hx hb dX2_mergeNode_106 hl (by decide) rfl (fun ls hl => ?_)
              refine lv_aload_n hx hb dX2_mergeNode_108 rfl (lv_at hl 4 rfl) ?_
              refine va_get (D := gD G) (ci := 2) (v := .ref (gA G (3 * 40))) (C := RX2) (T := TX2) (N := 10) hx hb hts inX2 hown hK.1 hW 139 cw_O rfl 8 (by decide) (hts (.fieldLink RX2 44 "MarkedTrees" "merged" "LMarkedTrees$Tree;") (by decide +kernel)) (fun _ h9 => h9) rfl dX2_mergeNode_109 ?_
              refine lv_iload_n hx hb dX2_mergeNode_112 rfl (lv_at hl 6 rfl) ?_
              refine lv_iload hx hb dX2_mergeNode_113 (lv_at hl 9 rfl) ?_
              refine lv_aload hx hb dX2_mergeNode_115 (lv_at hl 0 rfl) ?_
              refine lv_iload_n hx hb dX2_mergeNode_117 rfl (lv_at hl 6 rfl) ?_
              refine lv_iload hx hb dX2_mergeNode_118 (lv_at hl 9 rfl) ?_
              refine pv_i (va_runV (As := [.int (nI n), .int (nI w)]) (rest := [.int (nI w), .int (nI n), .ref (gA G (3 * 40))]) ⟨hx, hb, hml, hown, hts⟩ (k_X1_valueOf l G Q (t := b) (by omega) (n := n) (w := w) (by omega) (by omega)) (cwV 2 hts gX2_mergeNode_X1_valueOf rfl rfl rfl (by decide +kernel) ⟨Nat.le_of_ble_eq_true rfl, Nat.le_of_ble_eq_true rfl⟩) ⟨cP_blind, c_recv hW hK (k := (3 * b)) (ci := 1) (cw_T (t := b) (by omega)) rfl, cP_at hW hK hS⟩ rfl rfl hl.1 rfl (lv_room (Nat.le_of_ble_eq_true rfl)) dX2_mergeNode_120 ⟨Nat.le_of_ble_eq_true rfl, Nat.le_of_ble_eq_true rfl⟩) (fun r_17 hr_17 => ?_)
              have hr_17 : r_17 = Q.1 (3 * b + 1) (n * 3 + w) := hr_17
              subst hr_17
              refine ev_v (va_runV (As := [.int (nI n), .int (nI w), .int (Q.1 (3 * b + 1) (n * 3 + w))]) (rest := []) ⟨hx, hb, hml, hown, hts⟩ (k_X1_setValue l G Q H.size (t := 40) (by omega) (n := n) (w := w) (by omega) (by omega) (Q.1 (3 * b + 1) (n * 3 + w))) (cwV 3 hts gX2_mergeNode_X1_setValue rfl rfl rfl (by decide +kernel) ⟨Nat.le_of_ble_eq_true rfl, Nat.le_of_ble_eq_true rfl⟩) ⟨cQ_blind, c_recv hW hK (k := (3 * 40)) (ci := 1) (cw_T (t := 40) (by omega)) rfl, cQ_at hW hK hS⟩ rfl rfl hl.1 rfl (lv_room (Nat.le_of_ble_eq_true rfl)) dX2_mergeNode_123 ⟨Nat.le_of_ble_eq_true rfl, Nat.le_of_ble_eq_true rfl⟩) hS (fun S_18 t9 H locs ht9 hS_18 hW hS => ?_)
              have hW : cW G S_18 H := ht9 ▸ hW
              have hrc_S_18 : S_18.1 139 4 = nI rc := by rw [hS_18, s1_ne _ _ _ _ (by omega)]; exact hq
              refine lv_aload_n hx hb dX2_mergeNode_126 rfl (lv_at hl 4 rfl) ?_
              refine va_get (D := gD G) (ci := 2) (v := .ref (gA G (3 * 40))) (C := RX2) (T := TX2) (N := 10) hx hb hts inX2 hown hK.1 hW 139 cw_O rfl 8 (by decide) (hts (.fieldLink RX2 44 "MarkedTrees" "merged" "LMarkedTrees$Tree;") (by decide +kernel)) (fun _ h9 => h9) rfl dX2_mergeNode_127 ?_
              refine lv_iload_n hx hb dX2_mergeNode_130 rfl (lv_at hl 6 rfl) ?_
              refine lv_iload hx hb dX2_mergeNode_131 (lv_at hl 9 rfl) ?_
              refine lv_aload_n hx hb dX2_mergeNode_133 rfl (lv_at hl 4 rfl) ?_
              refine lv_iload_n hx hb dX2_mergeNode_134 rfl (lv_at hl 6 rfl) ?_
              refine lv_iload hx hb dX2_mergeNode_135 (lv_at hl 9 rfl) ?_
              refine lv_iload_n hx hb dX2_mergeNode_137 rfl (lv_at hl 7 rfl) ?_
              refine lv_iload hx hb dX2_mergeNode_138 (lv_at hl 8 rfl) ?_
              refine lv_iload hx hb dX2_mergeNode_140 (lv_at hl 3 rfl) ?_
              refine lv_iload hx hb dX2_mergeNode_142 (lv_at hl 1 rfl) ?_
              refine pv_l (va_runV (As := [.int (nI n), .int (nI w), .int (nI a), .int (nI b), .int (osI Q n w a b), .int (osI Q n w a b)]) (rest := [.int (nI w), .int (nI n), .ref (gA G (3 * 40))]) ⟨hx, hb, hml, hown, hts⟩ (k_X2_mergedMarks l G S_18 (rc := rc) hrc_S_18 (by omega) (n := n) (w := w) (a := a) (b := b) (by omega) (by omega) (by omega) (by omega) (osI Q n w a b) (osI Q n w a b)) (cwV 6 hts gX2_mergeNode_X2_mergedMarks rfl rfl rfl (by decide +kernel) ⟨Nat.le_of_ble_eq_true rfl, Nat.le_of_ble_eq_true rfl⟩) ⟨cP_blind, c_recv hW hK (k := 139) (ci := 2) cw_O rfl, cP_at hW hK hS⟩ rfl rfl hl.1 rfl (lv_room (Nat.le_of_ble_eq_true rfl)) dX2_mergeNode_144 ⟨Nat.le_of_ble_eq_true rfl, Nat.le_of_ble_eq_true rfl⟩) (fun r_19 hr_19 => ?_)
              have hr_19 : r_19 = mmI S_18 rc n w a b (osI Q n w a b) (osI Q n w a b) := hr_19
              subst hr_19
              refine ev_v (va_runV (As := [.int (nI n), .int (nI w), .long (mmI S_18 rc n w a b (osI Q n w a b) (osI Q n w a b))]) (rest := []) ⟨hx, hb, hml, hown, hts⟩ (k_X1_setMarks l G S_18 H.size (t := 40) (by omega) (n := n) (w := w) (by omega) (by omega) (mmI S_18 rc n w a b (osI Q n w a b) (osI Q n w a b))) (cwV 3 hts gX2_mergeNode_X1_setMarks rfl rfl rfl (by decide +kernel) ⟨Nat.le_of_ble_eq_true rfl, Nat.le_of_ble_eq_true rfl⟩) ⟨cQ_blind, c_recv hW hK (k := (3 * 40)) (ci := 1) (cw_T (t := 40) (by omega)) rfl, cQ_at hW hK hS⟩ rfl rfl hl.1 rfl (lv_room (Nat.le_of_ble_eq_true rfl)) dX2_mergeNode_147 ⟨Nat.le_of_ble_eq_true rfl, Nat.le_of_ble_eq_true rfl⟩) hS (fun S_20 t9 H locs ht9 hS_20 hW hS => ?_)
              have hW : cW G S_20 H := ht9 ▸ hW
              refine lv_iinc (v := nI (w + 1)) (lv' := [(5, .int (nI (w + 1))), (9, .ref (gA G (3 * b))), (8, .int (osI Q n w a b)), (7, .int (Q.1 (131 + 5 * i) (n * 3 + w))), (6, .int (osI Q n w a b)), (0, .ref (gA G 139)), (1, .ref (gA G (129 + 5 * i))), (2, .int (nI n)), (3, .int (nI a)), (4, .int (nI b))]) hx hb dX2_mergeNode_150 hl (k := 9) rfl (nI_add w 1) (by decide) rfl (fun ls hl => ?_)
              refine lv_goto (tgt := 12) hx hb dX2_mergeNode_153 (by decide) ?_
              have E : mnW rc i n a b (k + 1) w Q = mnW rc i n a b k (w + 1) S_20 := by subst_vars; rw [mnW, mn1, mnSide, if_pos c_46, if_neg c_61, if_pos c_87]; rfl
              rw [E]
              have hq9 : S_20.1 139 4 = nI rc := by rw [hS_20]; exact hrc_S_18
              exact ih (w + 1) S_20 H locs hW hS hq9 (by omega) ls (lv_sub hl [5, 6, 7, 8, 9, 0] rfl)
          · refine lv_aload_n hx hb dX2_mergeNode_64 rfl (lv_at hl 3 rfl) ?_
            refine lv_dup hx hb dX2_mergeNode_65 rfl ?_
            refine va_get (D := gD G) (ci := 2) (v := .long (Q.2 139 9)) (C := RX2) (T := TX2) (N := 10) hx hb hts inX2 hown hK.1 hW 139 cw_O rfl 9 (by decide) (hts (.fieldLink RX2 301 "MarkedTrees" "undecided" "J") (by decide +kernel)) (fun _ h9 => h9) rfl dX2_mergeNode_66 ?_
            refine lv_lconst (v := 1) hx hb dX2_mergeNode_69 (by decide) ?_
            refine lv_iload_n hx hb dX2_mergeNode_70 rfl (lv_at hl 5 rfl) ?_
            refine lv_iload hx hb dX2_mergeNode_71 (lv_at hl 8 rfl) ?_
            refine pv_i (va_runS (As := [.int (nI n), .int (nI w)]) (rest := [.long 1, .long (Q.2 139 9), .ref (gA G 139)]) ⟨hx, hb, hml, hown, hts⟩ (k_X2_slot l n w) (va_cwS 2 hts gX2_mergeNode_X2_slot rfl rfl rfl (by decide +kernel) ⟨Nat.le_of_ble_eq_true rfl, Nat.le_of_ble_eq_true rfl⟩) ⟨(fun _ _ _ _ h => h), fun U _ _ => ⟨rfl, trivial⟩⟩ rfl rfl hl.1 rfl (lv_room (Nat.le_of_ble_eq_true rfl)) dX2_mergeNode_73 ⟨Nat.le_of_ble_eq_true rfl, Nat.le_of_ble_eq_true rfl⟩) (fun r_21 hr_21 => ?_)
            have hr_21 : r_21 = nI (n * 3 + w) := hr_21
            subst hr_21
            refine lv_lshl (v := 1 <<< ((nI (n * 3 + w)).toInt64 &&& 63)) hx hb dX2_mergeNode_76 rfl ?_
            refine lv_lor hx hb dX2_mergeNode_77 ?_
            refine va_put (D := gD G) (ci := 2) (v := .long ((Q.2 139 9) ||| (1 <<< ((nI (n * 3 + w)).toInt64 &&& 63)))) (ty := .long) (C := RX2) (T := TX2) (N := 10) hx hb hts inX2 tyX2 tyX2_ok nmX2 hown hK.1 hW (wl_D hK.2.1) hS 139 cw_O rfl 9 (by decide) (hts (.fieldLink RX2 301 "MarkedTrees" "undecided" "J") (by decide +kernel)) (fun _ h9 => h9) rfl (by decide +kernel) rfl rfl (Nat.le_of_ble_eq_true rfl) dX2_mergeNode_78 (fun H locs hW _ hS => ?_)
            have hW : cW G (s2 Q 139 9 ((Q.2 139 9) ||| (1 <<< ((nI (n * 3 + w)).toInt64 &&& 63)))) H := cp_O_9 hW
            obtain ⟨S_22, eS_22⟩ : ∃ z, z = s2 Q 139 9 ((Q.2 139 9) ||| (1 <<< ((nI (n * 3 + w)).toInt64 &&& 63))) := ⟨_, rfl⟩
            rw [← eS_22] at hW
            refine lv_goto (tgt := 150) hx hb dX2_mergeNode_81 (by decide) ?_
            refine lv_iinc (v := nI (w + 1)) (lv' := [(5, .int (nI (w + 1))), (8, .int (osI Q n w a b)), (7, .int (Q.1 (131 + 5 * i) (n * 3 + w))), (6, .int (osI Q n w a b)), (0, .ref (gA G 139)), (1, .ref (gA G (129 + 5 * i))), (2, .int (nI n)), (3, .int (nI a)), (4, .int (nI b))]) hx hb dX2_mergeNode_150 hl (k := 8) rfl (nI_add w 1) (by decide) rfl (fun ls hl => ?_)
            refine lv_goto (tgt := 12) hx hb dX2_mergeNode_153 (by decide) ?_
            have E : mnW rc i n a b (k + 1) w Q = mnW rc i n a b k (w + 1) S_22 := by subst_vars; rw [mnW, mn1, mnSide, if_pos c_46, if_pos c_61]; rfl
            rw [E]
            have hq9 : S_22.1 139 4 = nI rc := by rw [eS_22]; exact hq
            exact ih (w + 1) S_22 H locs hW hS hq9 (by omega) ls (lv_sub hl [4, 5, 6, 7, 8, 0] rfl)
  refine lv_aload_n hx hb dX2_mergeNode_0 rfl (lv_at hl 0 rfl) ?_
  refine va_get (D := gD G) (ci := 2) (v := .ref (gA G (3 * 40))) (C := RX2) (T := TX2) (N := 10) hx hb hts inX2 hown hK.1 hW 139 cw_O rfl 8 (by decide) (hts (.fieldLink RX2 44 "MarkedTrees" "merged" "LMarkedTrees$Tree;") (by decide +kernel)) (fun _ h9 => h9) rfl dX2_mergeNode_1 ?_
  refine lv_iload_n hx hb dX2_mergeNode_4 rfl (lv_at hl 2 rfl) ?_
  refine lv_iconst (v := (-1)) hx hb dX2_mergeNode_5 (by decide) ?_
  refine ev_v (va_runV (As := [.int (nI n), .int (-1)]) (rest := []) ⟨hx, hb, hml, hown, hts⟩ (k_X1_plant l G S s.heap.size (t := 40) (by omega) (n := n) (by omega) (-1)) (cwV 2 hts gX2_mergeNode_X1_plant rfl rfl rfl (by decide +kernel) ⟨Nat.le_of_ble_eq_true rfl, Nat.le_of_ble_eq_true rfl⟩) ⟨cQ_blind, c_recv hW hK (k := (3 * 40)) (ci := 1) (cw_T (t := 40) (by omega)) rfl, cQ_at hW hK hS⟩ rfl rfl hl.1 rfl (lv_room (Nat.le_of_ble_eq_true rfl)) dX2_mergeNode_6 ⟨Nat.le_of_ble_eq_true rfl, Nat.le_of_ble_eq_true rfl⟩) hS (fun S_23 t9 H locs ht9 hS_23 hW hS => ?_)
  have hW : cW G S_23 H := ht9 ▸ hW
  refine lv_iconst (v := nI 0) hx hb dX2_mergeNode_9 (by decide) ?_
  refine lv_istore (lv' := [(5, .int (nI 0)), (0, .ref (gA G 139)), (1, .ref (gA G (129 + 5 * i))), (2, .int (nI n)), (3, .int (nI a)), (4, .int (nI b))]) hx hb dX2_mergeNode_10 hl (by decide) rfl (fun ls hl => ?_)
  have hq : S_23.1 139 4 = nI rc := by rw [hS_23, plantS_F _ _ _ _ (by omega) (by omega)]; exact hrc
  have E : mnS S rc i n a b = mnW rc i n a b 3 0 S_23 := by rw [hS_23]; rfl
  rw [E]
  exact LP 3 0 S_23 H locs hW hS hq (by omega) ls (lv_sub hl [1, 2, 3, 4, 5, 0] rfl)
