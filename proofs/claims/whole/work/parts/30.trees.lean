set_option maxHeartbeats 4000000 in
set_option maxRecDepth 100000 in
theorem k_X2_isIn (l : Launch) (x : Int64) {k : Nat} (hk : k < 64) : Met l yX2_isIn wsX2_isIn ({ frames := 0, cells := 0, slots := 0, locals := 0 } : Room) (va_Pc [.long x, .int (nI k)] (fun _ => True)) (vp_Si (fun r => r = bI (tb x k))) 0 0 (fun _ => False) := by
  refine Met.ofW (cc := cX2_isIn) (maxL := 3) (ret := (some .boolean)) (by decide) rfl ?_
  intro p e s m args below meth c s₁ B hml hv
  obtain ⟨rfl, -⟩ := hv
  have hx := B.exec
  have hb := B.bytes
  have hr := B.returns
  have hts := atoms_spec (ws := wsX2_isIn) B.pre
  have hown : s.vm.findClass RX2 = some m.cls := findClass_of_methodNamed B.named
  have hlocks := B.notSynchronized
  have hl := lv_entry ([.long x, .int (nI k)]) (n := 3) (Nat.le_of_ble_eq_true rfl)
  rw [lg_entry_eq]
  generalize (lg_sl ([.long x, .int (nI k)]) ++ List.replicate (3 - (lg_sl ([.long x, .int (nI k)])).length) Slot.unset).toArray = ls at hl ⊢
  have hl : lv_has ls 3 [(0, .long x), (2, .int (nI k))] := hl
  refine lv_lload_n hx hb dX2_isIn_0 rfl (lv_at hl 0 rfl) ?_
  refine lv_iload_n hx hb dX2_isIn_1 rfl (lv_at hl 1 rfl) ?_
  refine lv_lshr (v := x >>> ((nI k).toInt64 &&& 63)) hx hb dX2_isIn_2 rfl ?_
  refine lv_lconst (v := 1) hx hb dX2_isIn_3 (by decide) ?_
  refine lv_land hx hb dX2_isIn_4 ?_
  refine lv_lconst (v := 0) hx hb dX2_isIn_5 (by decide) ?_
  refine W.lcmp hx hb dX2_isIn_6 ?_
  refine cv_if_eq (tgt := 14) hx hb dX2_isIn_7 (by decide) (fun c_7 => ?_) (fun c_7 => ?_)
  · refine lv_iconst (v := nI 0) hx hb dX2_isIn_14 (by decide) ?_
    exact W.zret (v := nI 0) hx hb hr rfl (fun t9 ht9 _ => ⟨_, rfl, (bI_i0 ((tb_shr x hk).mp c_7)), ht9⟩) (fun _ h => by cases h) dX2_isIn_15
  · refine lv_iconst (v := nI 1) hx hb dX2_isIn_10 (by decide) ?_
    refine lv_goto (tgt := 15) hx hb dX2_isIn_11 (by decide) ?_
    exact W.zret (v := nI 1) hx hb hr rfl (fun t9 ht9 _ => ⟨_, rfl, (bI_i1 (by cases h9 : tb x k; exact absurd ((tb_shr x hk).mpr h9) c_7; rfl)), ht9⟩) (fun _ h => by cases h) dX2_isIn_15

set_option maxHeartbeats 4000000 in
set_option maxRecDepth 100000 in
theorem k_X2_slot (l : Launch) (a b : Nat) : Met l yX2_slot wsX2_slot ({ frames := 0, cells := 0, slots := 0, locals := 0 } : Room) (va_Pc [.int (nI a), .int (nI b)] (fun _ => True)) (vp_Si (fun r => r = nI (a * 3 + b))) 0 0 (fun _ => False) := by
  refine Met.ofW (cc := cX2_slot) (maxL := 2) (ret := (some .int)) (by decide) rfl ?_
  intro p e s m args below meth c s₁ B hml hv
  obtain ⟨rfl, -⟩ := hv
  have hx := B.exec
  have hb := B.bytes
  have hr := B.returns
  have hts := atoms_spec (ws := wsX2_slot) B.pre
  have hown : s.vm.findClass RX2 = some m.cls := findClass_of_methodNamed B.named
  have hlocks := B.notSynchronized
  have hl := lv_entry ([.int (nI a), .int (nI b)]) (n := 2) (Nat.le_of_ble_eq_true rfl)
  rw [lg_entry_eq]
  generalize (lg_sl ([.int (nI a), .int (nI b)]) ++ List.replicate (2 - (lg_sl ([.int (nI a), .int (nI b)])).length) Slot.unset).toArray = ls at hl ⊢
  have hl : lv_has ls 2 [(0, .int (nI a)), (1, .int (nI b))] := hl
  refine lv_iload_n hx hb dX2_slot_0 rfl (lv_at hl 0 rfl) ?_
  refine lv_iconst (v := nI 3) hx hb dX2_slot_1 (by decide) ?_
  refine nv_imul hx hb dX2_slot_2 ?_
  refine lv_iload_n hx hb dX2_slot_3 rfl (lv_at hl 1 rfl) ?_
  refine nv_iadd hx hb dX2_slot_4 ?_
  exact W.iret (v := nI ((a * 3) + b)) hx hb hr (fun t9 ht9 _ => ⟨_, rfl, rfl, ht9⟩) (fun _ h => by cases h) dX2_slot_5

set_option maxHeartbeats 4000000 in
set_option maxRecDepth 100000 in
theorem k_X2_placeOf (l : Launch) (a b : Nat) : Met l yX2_placeOf wsX2_placeOf ({ frames := 0, cells := 0, slots := 0, locals := 0 } : Room) (va_Pc [.int (nI a), .int (nI b)] (fun _ => True)) (vp_Si (fun r => r = nI (a * 10 + b))) 0 0 (fun _ => False) := by
  refine Met.ofW (cc := cX2_placeOf) (maxL := 2) (ret := (some .int)) (by decide) rfl ?_
  intro p e s m args below meth c s₁ B hml hv
  obtain ⟨rfl, -⟩ := hv
  have hx := B.exec
  have hb := B.bytes
  have hr := B.returns
  have hts := atoms_spec (ws := wsX2_placeOf) B.pre
  have hown : s.vm.findClass RX2 = some m.cls := findClass_of_methodNamed B.named
  have hlocks := B.notSynchronized
  have hl := lv_entry ([.int (nI a), .int (nI b)]) (n := 2) (Nat.le_of_ble_eq_true rfl)
  rw [lg_entry_eq]
  generalize (lg_sl ([.int (nI a), .int (nI b)]) ++ List.replicate (2 - (lg_sl ([.int (nI a), .int (nI b)])).length) Slot.unset).toArray = ls at hl ⊢
  have hl : lv_has ls 2 [(0, .int (nI a)), (1, .int (nI b))] := hl
  refine lv_iload_n hx hb dX2_placeOf_0 rfl (lv_at hl 0 rfl) ?_
  refine lv_bipush (v := nI 10) hx hb dX2_placeOf_1 (by decide) ?_
  refine nv_imul hx hb dX2_placeOf_3 ?_
  refine lv_iload_n hx hb dX2_placeOf_4 rfl (lv_at hl 1 rfl) ?_
  refine nv_iadd hx hb dX2_placeOf_5 ?_
  exact W.iret (v := nI ((a * 10) + b)) hx hb hr (fun t9 ht9 _ => ⟨_, rfl, rfl, ht9⟩) (fun _ h => by cases h) dX2_placeOf_6

set_option maxHeartbeats 4000000 in
set_option maxRecDepth 100000 in
theorem k_X2_certificateKind (l : Launch) (a b : Nat) : Met l yX2_certificateKind wsX2_certificateKind ({ frames := 0, cells := 0, slots := 0, locals := 0 } : Room) (va_Pc [.int (nI a), .int (nI b)] (fun _ => True)) (vp_Si (fun r => r = nI (a * 3 + b))) 0 0 (fun _ => False) := by
  refine Met.ofW (cc := cX2_certificateKind) (maxL := 2) (ret := (some .int)) (by decide) rfl ?_
  intro p e s m args below meth c s₁ B hml hv
  obtain ⟨rfl, -⟩ := hv
  have hx := B.exec
  have hb := B.bytes
  have hr := B.returns
  have hts := atoms_spec (ws := wsX2_certificateKind) B.pre
  have hown : s.vm.findClass RX2 = some m.cls := findClass_of_methodNamed B.named
  have hlocks := B.notSynchronized
  have hl := lv_entry ([.int (nI a), .int (nI b)]) (n := 2) (Nat.le_of_ble_eq_true rfl)
  rw [lg_entry_eq]
  generalize (lg_sl ([.int (nI a), .int (nI b)]) ++ List.replicate (2 - (lg_sl ([.int (nI a), .int (nI b)])).length) Slot.unset).toArray = ls at hl ⊢
  have hl : lv_has ls 2 [(0, .int (nI a)), (1, .int (nI b))] := hl
  refine lv_iload_n hx hb dX2_certificateKind_0 rfl (lv_at hl 0 rfl) ?_
  refine lv_iconst (v := nI 3) hx hb dX2_certificateKind_1 (by decide) ?_
  refine nv_imul hx hb dX2_certificateKind_2 ?_
  refine lv_iload_n hx hb dX2_certificateKind_3 rfl (lv_at hl 1 rfl) ?_
  refine nv_iadd hx hb dX2_certificateKind_4 ?_
  exact W.iret (v := nI ((a * 3) + b)) hx hb hr (fun t9 ht9 _ => ⟨_, rfl, rfl, ht9⟩) (fun _ h => by cases h) dX2_certificateKind_5

set_option maxHeartbeats 4000000 in
set_option maxRecDepth 100000 in
theorem k_X1_valueOf (l : Launch) (G : GT) (S : SS) {t : Nat} (ht : t < 43) {n w : Nat} (hn : n < 16) (hw : w < 3) : Met l yX1_valueOf wsX1_valueOf ({ frames := 1, cells := 0, slots := 0, locals := 21 } : Room) (va_Pc [.ref (gA G (3 * t)), .int (nI n), .int (nI w)] (cP G S)) (vp_Si (fun r => r = S.1 (3 * t + 1) (n * 3 + w))) 0 0 (fun _ => False) := by
  refine Met.ofW (cc := cX1_valueOf) (maxL := 3) (ret := (some .int)) (by decide) rfl ?_
  intro p e s m args below meth c s₁ B hml hv
  obtain ⟨rfl, hW, hK⟩ := hv
  have hx := B.exec
  have hb := B.bytes
  have hr := B.returns
  have hts := atoms_spec (ws := wsX1_valueOf) B.pre
  have hown : s.vm.findClass RX1 = some m.cls := findClass_of_methodNamed B.named
  have hlocks := B.notSynchronized
  have hS : va_S (gF G s.heap.size) s.heap s.heap [] := va_S.rf
  have inX1 : ∀ w ∈ u_ws RX1 TX1 3, w ∈ wsX1_valueOf := by decide +kernel
  have hl := lv_entry ([.ref (gA G (3 * t)), .int (nI n), .int (nI w)]) (n := 3) (Nat.le_of_ble_eq_true rfl)
  rw [lg_entry_eq]
  generalize (lg_sl ([.ref (gA G (3 * t)), .int (nI n), .int (nI w)]) ++ List.replicate (3 - (lg_sl ([.ref (gA G (3 * t)), .int (nI n), .int (nI w)])).length) Slot.unset).toArray = ls at hl ⊢
  have hl : lv_has ls 3 [(0, .ref (gA G (3 * t))), (1, .int (nI n)), (2, .int (nI w))] := hl
  refine lv_aload_n hx hb dX1_valueOf_0 rfl (lv_at hl 0 rfl) ?_
  refine va_get (D := gD G) (ci := 1) (v := .ref (gA G (3 * t + 1))) (C := RX1) (T := TX1) (N := 3) hx hb hts inX1 hown hK.1 hW (3 * t) (cw_T (t := t) (by omega)) rfl 1 (by decide) (hts (.fieldLink RX1 15 "MarkedTrees$Tree" "values" "[I") (by decide +kernel)) (fun _ h9 => h9) rfl dX1_valueOf_1 ?_
  refine lv_iload_n hx hb dX1_valueOf_4 rfl (lv_at hl 1 rfl) ?_
  refine lv_iload_n hx hb dX1_valueOf_5 rfl (lv_at hl 2 rfl) ?_
  refine pv_i (va_runSN (As := [.int (nI n), .int (nI w)]) (rest := [.ref (gA G (3 * t + 1))]) ⟨hx, hb, hml, hown, hts⟩ (k_X2_slot l n w) ⟨va_cnB 2 hts ggX1_valueOf_X2_slot rfl rfl rfl hK.2.2.2.1.1 (hts (.initialized RX2) (by decide +kernel)) (by decide +kernel) ⟨Nat.le_of_ble_eq_true rfl, Nat.le_of_ble_eq_true rfl⟩, (hts (.static yX2_slot) (by decide +kernel)), trivial⟩ ⟨(fun _ _ _ _ h => h), fun U _ _ => ⟨rfl, trivial⟩⟩ rfl rfl hl.1 rfl (lv_room (Nat.le_of_ble_eq_true rfl)) dX1_valueOf_6 ⟨Nat.le_of_ble_eq_true rfl, Nat.le_of_ble_eq_true rfl⟩) (fun r_1 hr_1 => ?_)
  have hr_1 : r_1 = nI (n * 3 + w) := hr_1
  subst hr_1
  refine nv_iald hx hb hK.1 hW (3 * t + 1) 0 (cw_V (t := t) (by omega)) rfl (i := n * 3 + w) (by omega) (by decide) dX1_valueOf_9 ?_
  exact W.iret (v := S.1 (3 * t + 1) (n * 3 + w)) hx hb hr (fun t9 ht9 _ => ⟨_, rfl, rfl, ht9⟩) (fun _ h => by cases h) dX1_valueOf_10

set_option maxHeartbeats 4000000 in
set_option maxRecDepth 100000 in
theorem k_X1_marksOf (l : Launch) (G : GT) (S : SS) {t : Nat} (ht : t < 43) {n w : Nat} (hn : n < 16) (hw : w < 3) : Met l yX1_marksOf wsX1_marksOf ({ frames := 1, cells := 0, slots := 0, locals := 21 } : Room) (va_Pc [.ref (gA G (3 * t)), .int (nI n), .int (nI w)] (cP G S)) (vp_Sl (fun r => r = S.2 (3 * t + 2) (n * 3 + w))) 0 0 (fun _ => False) := by
  refine Met.ofW (cc := cX1_marksOf) (maxL := 3) (ret := (some .long)) (by decide) rfl ?_
  intro p e s m args below meth c s₁ B hml hv
  obtain ⟨rfl, hW, hK⟩ := hv
  have hx := B.exec
  have hb := B.bytes
  have hr := B.returns
  have hts := atoms_spec (ws := wsX1_marksOf) B.pre
  have hown : s.vm.findClass RX1 = some m.cls := findClass_of_methodNamed B.named
  have hlocks := B.notSynchronized
  have hS : va_S (gF G s.heap.size) s.heap s.heap [] := va_S.rf
  have inX1 : ∀ w ∈ u_ws RX1 TX1 3, w ∈ wsX1_marksOf := by decide +kernel
  have hl := lv_entry ([.ref (gA G (3 * t)), .int (nI n), .int (nI w)]) (n := 3) (Nat.le_of_ble_eq_true rfl)
  rw [lg_entry_eq]
  generalize (lg_sl ([.ref (gA G (3 * t)), .int (nI n), .int (nI w)]) ++ List.replicate (3 - (lg_sl ([.ref (gA G (3 * t)), .int (nI n), .int (nI w)])).length) Slot.unset).toArray = ls at hl ⊢
  have hl : lv_has ls 3 [(0, .ref (gA G (3 * t))), (1, .int (nI n)), (2, .int (nI w))] := hl
  refine lv_aload_n hx hb dX1_marksOf_0 rfl (lv_at hl 0 rfl) ?_
  refine va_get (D := gD G) (ci := 1) (v := .ref (gA G (3 * t + 2))) (C := RX1) (T := TX1) (N := 3) hx hb hts inX1 hown hK.1 hW (3 * t) (cw_T (t := t) (by omega)) rfl 2 (by decide) (hts (.fieldLink RX1 19 "MarkedTrees$Tree" "marksOfValues" "[J") (by decide +kernel)) (fun _ h9 => h9) rfl dX1_marksOf_1 ?_
  refine lv_iload_n hx hb dX1_marksOf_4 rfl (lv_at hl 1 rfl) ?_
  refine lv_iload_n hx hb dX1_marksOf_5 rfl (lv_at hl 2 rfl) ?_
  refine pv_i (va_runSN (As := [.int (nI n), .int (nI w)]) (rest := [.ref (gA G (3 * t + 2))]) ⟨hx, hb, hml, hown, hts⟩ (k_X2_slot l n w) ⟨va_cnB 2 hts ggX1_marksOf_X2_slot rfl rfl rfl hK.2.2.2.1.1 (hts (.initialized RX2) (by decide +kernel)) (by decide +kernel) ⟨Nat.le_of_ble_eq_true rfl, Nat.le_of_ble_eq_true rfl⟩, (hts (.static yX2_slot) (by decide +kernel)), trivial⟩ ⟨(fun _ _ _ _ h => h), fun U _ _ => ⟨rfl, trivial⟩⟩ rfl rfl hl.1 rfl (lv_room (Nat.le_of_ble_eq_true rfl)) dX1_marksOf_6 ⟨Nat.le_of_ble_eq_true rfl, Nat.le_of_ble_eq_true rfl⟩) (fun r_1 hr_1 => ?_)
  have hr_1 : r_1 = nI (n * 3 + w) := hr_1
  subst hr_1
  refine nv_lald hx hb hK.1 hW (3 * t + 2) 1 (cw_M (t := t) (by omega)) rfl (i := n * 3 + w) (by omega) (by decide) dX1_marksOf_9 ?_
  exact W.lret (v := S.2 (3 * t + 2) (n * 3 + w)) hx hb hr (fun t9 ht9 _ => ⟨_, rfl, rfl, ht9⟩) (fun _ h => by cases h) dX1_marksOf_10

set_option maxHeartbeats 4000000 in
set_option maxRecDepth 100000 in
theorem k_X1_setValue (l : Launch) (G : GT) (S : SS) (sz : Nat) {t : Nat} (ht : t < 43) {n w : Nat} (hn : n < 16) (hw : w < 3) (x : Int32) : Met l yX1_setValue wsX1_setValue ({ frames := 1, cells := 0, slots := 0, locals := 21 } : Room) (va_Pc [.ref (gA G (3 * t)), .int (nI n), .int (nI w), .int x] (fun U => U.heap.size = sz ∧ cP G S U)) (va_Qv (fun S' => S' = s1 S (3 * t + 1) (n * 3 + w) x) (cB G) (gF G sz)) 0 0 (gF G sz) := by
  refine Met.ofW (cc := cX1_setValue) (maxL := 4) (ret := none) (by decide) rfl ?_
  intro p e s m args below meth c s₁ B hml hv
  obtain ⟨rfl, hsz, hW, hK⟩ := hv
  subst hsz
  have hx := B.exec
  have hb := B.bytes
  have hr := B.returns
  have hts := atoms_spec (ws := wsX1_setValue) B.pre
  have hown : s.vm.findClass RX1 = some m.cls := findClass_of_methodNamed B.named
  have hlocks := B.notSynchronized
  have hS : va_S (gF G s.heap.size) s.heap s.heap [] := va_S.rf
  have inX1 : ∀ w ∈ u_ws RX1 TX1 3, w ∈ wsX1_setValue := by decide +kernel
  have hl := lv_entry ([.ref (gA G (3 * t)), .int (nI n), .int (nI w), .int x]) (n := 4) (Nat.le_of_ble_eq_true rfl)
  rw [lg_entry_eq]
  generalize (lg_sl ([.ref (gA G (3 * t)), .int (nI n), .int (nI w), .int x]) ++ List.replicate (4 - (lg_sl ([.ref (gA G (3 * t)), .int (nI n), .int (nI w), .int x])).length) Slot.unset).toArray = ls at hl ⊢
  have hl : lv_has ls 4 [(0, .ref (gA G (3 * t))), (1, .int (nI n)), (2, .int (nI w)), (3, .int x)] := hl
  refine lv_aload_n hx hb dX1_setValue_0 rfl (lv_at hl 0 rfl) ?_
  refine va_get (D := gD G) (ci := 1) (v := .ref (gA G (3 * t + 1))) (C := RX1) (T := TX1) (N := 3) hx hb hts inX1 hown hK.1 hW (3 * t) (cw_T (t := t) (by omega)) rfl 1 (by decide) (hts (.fieldLink RX1 15 "MarkedTrees$Tree" "values" "[I") (by decide +kernel)) (fun _ h9 => h9) rfl dX1_setValue_1 ?_
  refine lv_iload_n hx hb dX1_setValue_4 rfl (lv_at hl 1 rfl) ?_
  refine lv_iload_n hx hb dX1_setValue_5 rfl (lv_at hl 2 rfl) ?_
  refine pv_i (va_runSN (As := [.int (nI n), .int (nI w)]) (rest := [.ref (gA G (3 * t + 1))]) ⟨hx, hb, hml, hown, hts⟩ (k_X2_slot l n w) ⟨va_cnB 2 hts ggX1_setValue_X2_slot rfl rfl rfl hK.2.2.2.1.1 (hts (.initialized RX2) (by decide +kernel)) (by decide +kernel) ⟨Nat.le_of_ble_eq_true rfl, Nat.le_of_ble_eq_true rfl⟩, (hts (.static yX2_slot) (by decide +kernel)), trivial⟩ ⟨(fun _ _ _ _ h => h), fun U _ _ => ⟨rfl, trivial⟩⟩ rfl rfl hl.1 rfl (lv_room (Nat.le_of_ble_eq_true rfl)) dX1_setValue_6 ⟨Nat.le_of_ble_eq_true rfl, Nat.le_of_ble_eq_true rfl⟩) (fun r_1 hr_1 => ?_)
  have hr_1 : r_1 = nI (n * 3 + w) := hr_1
  subst hr_1
  refine lv_iload_n hx hb dX1_setValue_9 rfl (lv_at hl 3 rfl) ?_
  refine nv_iast hx hb hK.1 hW (wl_D hK.2.1) hS (3 * t + 1) 0 (cw_V (t := t) (by omega)) rfl (i := n * 3 + w) (by omega) (by decide) dX1_setValue_10 (fun H locs hW hS => ?_)
  have hW : cW G (s1 S (3 * t + 1) (n * 3 + w) x) H := cp_V (by omega) hW
  obtain ⟨S_2, eS_2⟩ : ∃ z, z = s1 S (3 * t + 1) (n * 3 + w) x := ⟨_, rfl⟩
  rw [← eS_2] at hW
  exact W.vret hx hb hr (fun t9 ht9 _ => ⟨⟨S_2, rfl, eS_2, (show cW G S_2 t9.heap by rw [ht9]; exact hW)⟩, hS.F ht9⟩) hS.2.2 dX1_setValue_11

set_option maxHeartbeats 4000000 in
set_option maxRecDepth 100000 in
theorem k_X1_setMarks (l : Launch) (G : GT) (S : SS) (sz : Nat) {t : Nat} (ht : t < 43) {n w : Nat} (hn : n < 16) (hw : w < 3) (x : Int64) : Met l yX1_setMarks wsX1_setMarks ({ frames := 1, cells := 0, slots := 0, locals := 21 } : Room) (va_Pc [.ref (gA G (3 * t)), .int (nI n), .int (nI w), .long x] (fun U => U.heap.size = sz ∧ cP G S U)) (va_Qv (fun S' => S' = s2 S (3 * t + 2) (n * 3 + w) x) (cB G) (gF G sz)) 0 0 (gF G sz) := by
  refine Met.ofW (cc := cX1_setMarks) (maxL := 5) (ret := none) (by decide) rfl ?_
  intro p e s m args below meth c s₁ B hml hv
  obtain ⟨rfl, hsz, hW, hK⟩ := hv
  subst hsz
  have hx := B.exec
  have hb := B.bytes
  have hr := B.returns
  have hts := atoms_spec (ws := wsX1_setMarks) B.pre
  have hown : s.vm.findClass RX1 = some m.cls := findClass_of_methodNamed B.named
  have hlocks := B.notSynchronized
  have hS : va_S (gF G s.heap.size) s.heap s.heap [] := va_S.rf
  have inX1 : ∀ w ∈ u_ws RX1 TX1 3, w ∈ wsX1_setMarks := by decide +kernel
  have hl := lv_entry ([.ref (gA G (3 * t)), .int (nI n), .int (nI w), .long x]) (n := 5) (Nat.le_of_ble_eq_true rfl)
  rw [lg_entry_eq]
  generalize (lg_sl ([.ref (gA G (3 * t)), .int (nI n), .int (nI w), .long x]) ++ List.replicate (5 - (lg_sl ([.ref (gA G (3 * t)), .int (nI n), .int (nI w), .long x])).length) Slot.unset).toArray = ls at hl ⊢
  have hl : lv_has ls 5 [(0, .ref (gA G (3 * t))), (1, .int (nI n)), (2, .int (nI w)), (3, .long x)] := hl
  refine lv_aload_n hx hb dX1_setMarks_0 rfl (lv_at hl 0 rfl) ?_
  refine va_get (D := gD G) (ci := 1) (v := .ref (gA G (3 * t + 2))) (C := RX1) (T := TX1) (N := 3) hx hb hts inX1 hown hK.1 hW (3 * t) (cw_T (t := t) (by omega)) rfl 2 (by decide) (hts (.fieldLink RX1 19 "MarkedTrees$Tree" "marksOfValues" "[J") (by decide +kernel)) (fun _ h9 => h9) rfl dX1_setMarks_1 ?_
  refine lv_iload_n hx hb dX1_setMarks_4 rfl (lv_at hl 1 rfl) ?_
  refine lv_iload_n hx hb dX1_setMarks_5 rfl (lv_at hl 2 rfl) ?_
  refine pv_i (va_runSN (As := [.int (nI n), .int (nI w)]) (rest := [.ref (gA G (3 * t + 2))]) ⟨hx, hb, hml, hown, hts⟩ (k_X2_slot l n w) ⟨va_cnB 2 hts ggX1_setMarks_X2_slot rfl rfl rfl hK.2.2.2.1.1 (hts (.initialized RX2) (by decide +kernel)) (by decide +kernel) ⟨Nat.le_of_ble_eq_true rfl, Nat.le_of_ble_eq_true rfl⟩, (hts (.static yX2_slot) (by decide +kernel)), trivial⟩ ⟨(fun _ _ _ _ h => h), fun U _ _ => ⟨rfl, trivial⟩⟩ rfl rfl hl.1 rfl (lv_room (Nat.le_of_ble_eq_true rfl)) dX1_setMarks_6 ⟨Nat.le_of_ble_eq_true rfl, Nat.le_of_ble_eq_true rfl⟩) (fun r_1 hr_1 => ?_)
  have hr_1 : r_1 = nI (n * 3 + w) := hr_1
  subst hr_1
  refine lv_lload_n hx hb dX1_setMarks_9 rfl (lv_at hl 3 rfl) ?_
  refine nv_last hx hb hK.1 hW (wl_D hK.2.1) hS (3 * t + 2) 1 (cw_M (t := t) (by omega)) rfl (i := n * 3 + w) (by omega) (by decide) dX1_setMarks_10 (fun H locs hW hS => ?_)
  have hW : cW G (s2 S (3 * t + 2) (n * 3 + w) x) H := cp_M (by omega) hW
  obtain ⟨S_2, eS_2⟩ : ∃ z, z = s2 S (3 * t + 2) (n * 3 + w) x := ⟨_, rfl⟩
  rw [← eS_2] at hW
  exact W.vret hx hb hr (fun t9 ht9 _ => ⟨⟨S_2, rfl, eS_2, (show cW G S_2 t9.heap by rw [ht9]; exact hW)⟩, hS.F ht9⟩) hS.2.2 dX1_setMarks_11

set_option maxHeartbeats 4000000 in
set_option maxRecDepth 100000 in
theorem k_X1_isAlive (l : Launch) (G : GT) (S : SS) {t : Nat} (ht : t < 43) (x : Int32) : Met l yX1_isAlive wsX1_isAlive ({ frames := 1, cells := 0, slots := 0, locals := 22 } : Room) (va_Pc [.ref (gA G (3 * t)), .int x] (cP G S)) (vp_Si (fun r => r = bI (aliveB S t x))) 0 0 (fun _ => False) := by
  refine Met.ofW (cc := cX1_isAlive) (maxL := 2) (ret := (some .boolean)) (by decide) rfl ?_
  intro p e s m args below meth c s₁ B hml hv
  obtain ⟨rfl, hW, hK⟩ := hv
  have hx := B.exec
  have hb := B.bytes
  have hr := B.returns
  have hts := atoms_spec (ws := wsX1_isAlive) B.pre
  have hown : s.vm.findClass RX1 = some m.cls := findClass_of_methodNamed B.named
  have hlocks := B.notSynchronized
  have hS : va_S (gF G s.heap.size) s.heap s.heap [] := va_S.rf
  have inX1 : ∀ w ∈ u_ws RX1 TX1 3, w ∈ wsX1_isAlive := by decide +kernel
  have hl := lv_entry ([.ref (gA G (3 * t)), .int x]) (n := 2) (Nat.le_of_ble_eq_true rfl)
  rw [lg_entry_eq]
  generalize (lg_sl ([.ref (gA G (3 * t)), .int x]) ++ List.replicate (2 - (lg_sl ([.ref (gA G (3 * t)), .int x])).length) Slot.unset).toArray = ls at hl ⊢
  have hl : lv_has ls 2 [(0, .ref (gA G (3 * t))), (1, .int x)] := hl
  refine lv_iload_n hx hb dX1_isAlive_0 rfl (lv_at hl 1 rfl) ?_
  refine lv_if_lt (tgt := 26) hx hb dX1_isAlive_1 (by decide) (fun c_1 => ?_) (fun c_1 => ?_)
  · refine lv_iconst (v := nI 0) hx hb dX1_isAlive_26 (by decide) ?_
    exact W.zret (v := nI 0) hx hb hr rfl (fun t9 ht9 _ => ⟨_, rfl, (bI_i0 (aliveB_lo S t c_1)), ht9⟩) (fun _ h => by cases h) dX1_isAlive_27
  · refine lv_iload_n hx hb dX1_isAlive_4 rfl (lv_at hl 1 rfl) ?_
    refine lv_bipush (v := nI 16) hx hb dX1_isAlive_5 (by decide) ?_
    refine lv_icmp_ge (tgt := 26) hx hb dX1_isAlive_7 (by decide) (fun c_7 => ?_) (fun c_7 => ?_)
    · refine lv_iconst (v := nI 0) hx hb dX1_isAlive_26 (by decide) ?_
      exact W.zret (v := nI 0) hx hb hr rfl (fun t9 ht9 _ => ⟨_, rfl, (bI_i0 (aliveB_hi S t c_7)), ht9⟩) (fun _ h => by cases h) dX1_isAlive_27
    · obtain ⟨j, hj, rfl⟩ : ∃ j, j < 16 ∧ x = nI j := (pk_ix x (n := 16) (by decide)).elim (fun h => absurd h c_1) (fun h => h.elim (fun h => absurd h c_7) id)
      refine lv_aload_n hx hb dX1_isAlive_10 rfl (lv_at hl 0 rfl) ?_
      refine va_get (D := gD G) (ci := 1) (v := .int (S.1 (3 * t) 0)) (C := RX1) (T := TX1) (N := 3) hx hb hts inX1 hown hK.1 hW (3 * t) (cw_T (t := t) (by omega)) rfl 0 (by decide) (hts (.fieldLink RX1 9 "MarkedTrees$Tree" "alive" "I") (by decide +kernel)) (fun _ h9 => h9) rfl dX1_isAlive_11 ?_
      refine lv_i2l (v := (S.1 (3 * t) 0).toInt64) hx hb dX1_isAlive_14 rfl ?_
      refine lv_iload_n hx hb dX1_isAlive_15 rfl (lv_at hl 1 rfl) ?_
      refine pv_i (va_runSN (As := [.long ((S.1 (3 * t) 0).toInt64), .int (nI j)]) (rest := []) ⟨hx, hb, hml, hown, hts⟩ (k_X2_isIn l ((S.1 (3 * t) 0).toInt64) (k := j) (by omega)) ⟨va_cnB 2 hts ggX1_isAlive_X2_isIn rfl rfl rfl hK.2.2.2.1.2.1 (hts (.initialized RX2) (by decide +kernel)) (by decide +kernel) ⟨Nat.le_of_ble_eq_true rfl, Nat.le_of_ble_eq_true rfl⟩, (hts (.static yX2_isIn) (by decide +kernel)), trivial⟩ ⟨(fun _ _ _ _ h => h), fun U _ _ => ⟨rfl, trivial⟩⟩ rfl rfl hl.1 rfl (lv_room (Nat.le_of_ble_eq_true rfl)) dX1_isAlive_16 ⟨Nat.le_of_ble_eq_true rfl, Nat.le_of_ble_eq_true rfl⟩) (fun r_1 hr_1 => ?_)
      have hr_1 : r_1 = bI (tb ((S.1 (3 * t) 0).toInt64) j) := hr_1
      subst hr_1
      refine bv_if_eq (b := tb ((S.1 (3 * t) 0).toInt64) j) (tgt := 26) hx hb dX1_isAlive_19 (by decide) (fun c_19 => ?_) (fun c_19 => ?_)
      · refine lv_iconst (v := nI 0) hx hb dX1_isAlive_26 (by decide) ?_
        exact W.zret (v := nI 0) hx hb hr rfl (fun t9 ht9 _ => ⟨_, rfl, (bI_i0 (by rw [aliveB_nI S t hj, ← ti_l _ (by omega)]; exact c_19)), ht9⟩) (fun _ h => by cases h) dX1_isAlive_27
      · refine lv_iconst (v := nI 1) hx hb dX1_isAlive_22 (by decide) ?_
        refine lv_goto (tgt := 27) hx hb dX1_isAlive_23 (by decide) ?_
        exact W.zret (v := nI 1) hx hb hr rfl (fun t9 ht9 _ => ⟨_, rfl, (bI_i1 (by rw [aliveB_nI S t hj, ← ti_l _ (by omega)]; exact c_19)), ht9⟩) (fun _ h => by cases h) dX1_isAlive_27

set_option maxHeartbeats 4000000 in
set_option maxRecDepth 100000 in
theorem k_X1_parentOf (l : Launch) (G : GT) (S : SS) {t : Nat} (ht : t < 43) {n : Nat} (hn : n < 16) : Met l yX1_parentOf wsX1_parentOf ({ frames := 2, cells := 0, slots := 0, locals := 43 } : Room) (va_Pc [.ref (gA G (3 * t)), .int (nI n)] (cP G S)) (vp_Si (fun r => r = dP (S.1 (3 * t + 1) (n * 3)))) 0 0 (fun _ => False) := by
  refine Met.ofW (cc := cX1_parentOf) (maxL := 3) (ret := (some .int)) (by decide) rfl ?_
  intro p e s m args below meth c s₁ B hml hv
  obtain ⟨rfl, hW, hK⟩ := hv
  have hx := B.exec
  have hb := B.bytes
  have hr := B.returns
  have hts := atoms_spec (ws := wsX1_parentOf) B.pre
  have hown : s.vm.findClass RX1 = some m.cls := findClass_of_methodNamed B.named
  have hlocks := B.notSynchronized
  have hS : va_S (gF G s.heap.size) s.heap s.heap [] := va_S.rf
  have hl := lv_entry ([.ref (gA G (3 * t)), .int (nI n)]) (n := 3) (Nat.le_of_ble_eq_true rfl)
  rw [lg_entry_eq]
  generalize (lg_sl ([.ref (gA G (3 * t)), .int (nI n)]) ++ List.replicate (3 - (lg_sl ([.ref (gA G (3 * t)), .int (nI n)])).length) Slot.unset).toArray = ls at hl ⊢
  have hl : lv_has ls 3 [(0, .ref (gA G (3 * t))), (1, .int (nI n))] := hl
  refine lv_aload_n hx hb dX1_parentOf_0 rfl (lv_at hl 0 rfl) ?_
  refine lv_iload_n hx hb dX1_parentOf_1 rfl (lv_at hl 1 rfl) ?_
  refine lv_iconst (v := nI 0) hx hb dX1_parentOf_2 (by decide) ?_
  refine pv_i (va_runV (As := [.int (nI n), .int (nI 0)]) (rest := []) ⟨hx, hb, hml, hown, hts⟩ (k_X1_valueOf l G S (t := t) (by omega) (n := n) (w := 0) (by omega) (by omega)) (cwV 2 hts gX1_parentOf_X1_valueOf rfl rfl rfl (by decide +kernel) ⟨Nat.le_of_ble_eq_true rfl, Nat.le_of_ble_eq_true rfl⟩) ⟨cP_blind, c_recv hW hK (k := (3 * t)) (ci := 1) (cw_T (t := t) (by omega)) rfl, cP_at hW hK hS⟩ rfl rfl hl.1 rfl (lv_room (Nat.le_of_ble_eq_true rfl)) dX1_parentOf_3 ⟨Nat.le_of_ble_eq_true rfl, Nat.le_of_ble_eq_true rfl⟩) (fun r_1 hr_1 => ?_)
  have hr_1 : r_1 = S.1 (3 * t + 1) (n * 3) := hr_1
  subst hr_1
  refine lv_istore_n (lv' := [(2, .int (S.1 (3 * t + 1) (n * 3))), (0, .ref (gA G (3 * t))), (1, .int (nI n))]) hx hb dX1_parentOf_6 rfl hl (by decide) rfl (fun ls hl => ?_)
  refine lv_iload_n hx hb dX1_parentOf_7 rfl (lv_at hl 0 rfl) ?_
  refine lv_iconst (v := (-1)) hx hb dX1_parentOf_8 (by decide) ?_
  refine lv_icmp_ne (tgt := 16) hx hb dX1_parentOf_9 (by decide) (fun c_9 => ?_) (fun c_9 => ?_)
  · refine lv_iload_n hx hb dX1_parentOf_16 rfl (lv_at hl 0 rfl) ?_
    refine lv_bipush (v := nI 10) hx hb dX1_parentOf_17 (by decide) ?_
    refine lv_idiv hx hb dX1_parentOf_19 (by decide) ?_
    exact W.iret (v := (S.1 (3 * t + 1) (n * 3)) / (nI 10)) hx hb hr (fun t9 ht9 _ => ⟨_, rfl, (by unfold dP; rw [if_neg c_9]), ht9⟩) (fun _ h => by cases h) dX1_parentOf_20
  · refine lv_iconst (v := (-1)) hx hb dX1_parentOf_12 (by decide) ?_
    refine lv_goto (tgt := 20) hx hb dX1_parentOf_13 (by decide) ?_
    exact W.iret (v := (-1)) hx hb hr (fun t9 ht9 _ => ⟨_, rfl, (by unfold dP; rw [if_pos c_9]), ht9⟩) (fun _ h => by cases h) dX1_parentOf_20

set_option maxHeartbeats 4000000 in
set_option maxRecDepth 100000 in
theorem k_X1_nameOf (l : Launch) (G : GT) (S : SS) {t : Nat} (ht : t < 43) {n : Nat} (hn : n < 16) : Met l yX1_nameOf wsX1_nameOf ({ frames := 2, cells := 0, slots := 0, locals := 43 } : Room) (va_Pc [.ref (gA G (3 * t)), .int (nI n)] (cP G S)) (vp_Si (fun r => r = dN (S.1 (3 * t + 1) (n * 3)))) 0 0 (fun _ => False) := by
  refine Met.ofW (cc := cX1_nameOf) (maxL := 3) (ret := (some .int)) (by decide) rfl ?_
  intro p e s m args below meth c s₁ B hml hv
  obtain ⟨rfl, hW, hK⟩ := hv
  have hx := B.exec
  have hb := B.bytes
  have hr := B.returns
  have hts := atoms_spec (ws := wsX1_nameOf) B.pre
  have hown : s.vm.findClass RX1 = some m.cls := findClass_of_methodNamed B.named
  have hlocks := B.notSynchronized
  have hS : va_S (gF G s.heap.size) s.heap s.heap [] := va_S.rf
  have hl := lv_entry ([.ref (gA G (3 * t)), .int (nI n)]) (n := 3) (Nat.le_of_ble_eq_true rfl)
  rw [lg_entry_eq]
  generalize (lg_sl ([.ref (gA G (3 * t)), .int (nI n)]) ++ List.replicate (3 - (lg_sl ([.ref (gA G (3 * t)), .int (nI n)])).length) Slot.unset).toArray = ls at hl ⊢
  have hl : lv_has ls 3 [(0, .ref (gA G (3 * t))), (1, .int (nI n))] := hl
  refine lv_aload_n hx hb dX1_nameOf_0 rfl (lv_at hl 0 rfl) ?_
  refine lv_iload_n hx hb dX1_nameOf_1 rfl (lv_at hl 1 rfl) ?_
  refine lv_iconst (v := nI 0) hx hb dX1_nameOf_2 (by decide) ?_
  refine pv_i (va_runV (As := [.int (nI n), .int (nI 0)]) (rest := []) ⟨hx, hb, hml, hown, hts⟩ (k_X1_valueOf l G S (t := t) (by omega) (n := n) (w := 0) (by omega) (by omega)) (cwV 2 hts gX1_nameOf_X1_valueOf rfl rfl rfl (by decide +kernel) ⟨Nat.le_of_ble_eq_true rfl, Nat.le_of_ble_eq_true rfl⟩) ⟨cP_blind, c_recv hW hK (k := (3 * t)) (ci := 1) (cw_T (t := t) (by omega)) rfl, cP_at hW hK hS⟩ rfl rfl hl.1 rfl (lv_room (Nat.le_of_ble_eq_true rfl)) dX1_nameOf_3 ⟨Nat.le_of_ble_eq_true rfl, Nat.le_of_ble_eq_true rfl⟩) (fun r_1 hr_1 => ?_)
  have hr_1 : r_1 = S.1 (3 * t + 1) (n * 3) := hr_1
  subst hr_1
  refine lv_istore_n (lv' := [(2, .int (S.1 (3 * t + 1) (n * 3))), (0, .ref (gA G (3 * t))), (1, .int (nI n))]) hx hb dX1_nameOf_6 rfl hl (by decide) rfl (fun ls hl => ?_)
  refine lv_iload_n hx hb dX1_nameOf_7 rfl (lv_at hl 0 rfl) ?_
  refine lv_iconst (v := (-1)) hx hb dX1_nameOf_8 (by decide) ?_
  refine lv_icmp_ne (tgt := 16) hx hb dX1_nameOf_9 (by decide) (fun c_9 => ?_) (fun c_9 => ?_)
  · refine lv_iload_n hx hb dX1_nameOf_16 rfl (lv_at hl 0 rfl) ?_
    refine lv_bipush (v := nI 10) hx hb dX1_nameOf_17 (by decide) ?_
    refine lv_irem hx hb dX1_nameOf_19 (by decide) ?_
    exact W.iret (v := (S.1 (3 * t + 1) (n * 3)) - (S.1 (3 * t + 1) (n * 3)) / (nI 10) * (nI 10)) hx hb hr (fun t9 ht9 _ => ⟨_, rfl, (by unfold dN; rw [if_neg c_9]), ht9⟩) (fun _ h => by cases h) dX1_nameOf_20
  · refine lv_iconst (v := (-1)) hx hb dX1_nameOf_12 (by decide) ?_
    refine lv_goto (tgt := 20) hx hb dX1_nameOf_13 (by decide) ?_
    exact W.iret (v := (-1)) hx hb hr (fun t9 ht9 _ => ⟨_, rfl, (by unfold dN; rw [if_pos c_9]), ht9⟩) (fun _ h => by cases h) dX1_nameOf_20
