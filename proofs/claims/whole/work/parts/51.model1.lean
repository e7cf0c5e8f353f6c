set_option maxHeartbeats 4000000 in
set_option maxRecDepth 100000 in
theorem k_X3_thrown (l : Launch) (G : GT) (S : SS)  : Met l yX3_thrown wsX3_thrown ({ frames := 0, cells := 0, slots := 0, locals := 0 } : Room) (va_Pc [.ref (gA G 0)] (mP G S)) (vp_Si (fun r => r = S.1 0 0)) 0 0 (fun _ => False) := by
  refine Met.ofW (cc := cX3_thrown) (maxL := 1) (ret := (some .int)) (by decide) rfl ?_
  intro p e s m args below meth c s₁ B hml hv
  obtain ⟨rfl, hW, hK⟩ := hv
  have hx := B.exec
  have hb := B.bytes
  have hr := B.returns
  have hts := atoms_spec (ws := wsX3_thrown) B.pre
  have hown : s.vm.findClass RX3 = some m.cls := findClass_of_methodNamed B.named
  have hlocks := B.notSynchronized
  have hS : va_S (gF G s.heap.size) s.heap s.heap [] := va_S.rf
  have inX3 : ∀ w ∈ u_ws RX3 TX3 22, w ∈ wsX3_thrown := by decide +kernel
  have hl := lv_entry ([.ref (gA G 0)]) (n := 1) (Nat.le_of_ble_eq_true rfl)
  rw [lg_entry_eq]
  generalize (lg_sl ([.ref (gA G 0)]) ++ List.replicate (1 - (lg_sl ([.ref (gA G 0)])).length) Slot.unset).toArray = ls at hl ⊢
  have hl : lv_has ls 1 [(0, .ref (gA G 0))] := hl
  refine lv_aload_n hx hb dX3_thrown_0 rfl (lv_at hl 0 rfl) ?_
  refine va_get (D := gD G) (ci := 3) (v := .int (S.1 0 0)) (C := RX3) (T := TX3) (N := 22) hx hb hts inX3 hown hK.1 hW 0 mw_0 rfl 0 (by decide) (hts (.fieldLink RX3 76 "MarkedTreesModel" "thrown" "I") (by decide +kernel)) (fun _ h9 => h9) rfl dX3_thrown_1 ?_
  exact W.iret (v := S.1 0 0) hx hb hr (fun t9 ht9 _ => ⟨_, rfl, rfl, ht9⟩) (fun _ h => by cases h) dX3_thrown_4

set_option maxHeartbeats 4000000 in
set_option maxRecDepth 100000 in
theorem k_X3_fail (l : Launch) (G : GT) (S : SS) (sz : Nat) (x : Int32) : Met l yX3_fail wsX3_fail ({ frames := 0, cells := 0, slots := 0, locals := 0 } : Room) (va_Pc [.ref (gA G 0), .int x] (fun U => U.heap.size = sz ∧ mP G S U)) (va_Qi (fun r S' => r = nI 0 ∧ S' = s1 S 0 0 x) (mB G) (gF G sz)) 0 0 (gF G sz) := by
  refine Met.ofW (cc := cX3_fail) (maxL := 2) (ret := (some .int)) (by decide) rfl ?_
  intro p e s m args below meth c s₁ B hml hv
  obtain ⟨rfl, hsz, hW, hK⟩ := hv
  subst hsz
  have hx := B.exec
  have hb := B.bytes
  have hr := B.returns
  have hts := atoms_spec (ws := wsX3_fail) B.pre
  have hown : s.vm.findClass RX3 = some m.cls := findClass_of_methodNamed B.named
  have hlocks := B.notSynchronized
  have hS : va_S (gF G s.heap.size) s.heap s.heap [] := va_S.rf
  have inX3 : ∀ w ∈ u_ws RX3 TX3 22, w ∈ wsX3_fail := by decide +kernel
  have hl := lv_entry ([.ref (gA G 0), .int x]) (n := 2) (Nat.le_of_ble_eq_true rfl)
  rw [lg_entry_eq]
  generalize (lg_sl ([.ref (gA G 0), .int x]) ++ List.replicate (2 - (lg_sl ([.ref (gA G 0), .int x])).length) Slot.unset).toArray = ls at hl ⊢
  have hl : lv_has ls 2 [(0, .ref (gA G 0)), (1, .int x)] := hl
  refine lv_aload_n hx hb dX3_fail_0 rfl (lv_at hl 0 rfl) ?_
  refine lv_iload_n hx hb dX3_fail_1 rfl (lv_at hl 1 rfl) ?_
  refine va_put (D := gD G) (ci := 3) (v := .int x) (ty := .int) (C := RX3) (T := TX3) (N := 22) hx hb hts inX3 tyX3 tyX3_ok nmX3 hown hK.1 hW (wl_D hK.2.1) hS 0 mw_0 rfl 0 (by decide) (hts (.fieldLink RX3 76 "MarkedTreesModel" "thrown" "I") (by decide +kernel)) (fun _ h9 => h9) rfl (by decide +kernel) rfl rfl (Nat.le_of_ble_eq_true rfl) dX3_fail_2 (fun H locs hW _ hS => ?_)
  have hW : mW G (s1 S 0 0 x) H := mp_0_0 hW
  obtain ⟨S_1, eS_1⟩ : ∃ z, z = s1 S 0 0 x := ⟨_, rfl⟩
  rw [← eS_1] at hW
  refine lv_iconst (v := nI 0) hx hb dX3_fail_5 (by decide) ?_
  exact W.iret (v := nI 0) hx hb hr (fun t9 ht9 _ => ⟨⟨_, S_1, rfl, ⟨rfl, eS_1⟩, (show mW G S_1 t9.heap by rw [ht9]; exact hW)⟩, hS.F ht9⟩) hS.2.2 dX3_fail_6

set_option maxHeartbeats 4000000 in
set_option maxRecDepth 100000 in
theorem k_X3_in (l : Launch) (x a b : Int32) : Met l yX3_in wsX3_in ({ frames := 0, cells := 0, slots := 0, locals := 0 } : Room) (va_Pc [.int x, .int a, .int b] (fun _ => True)) (vp_Si (fun r => r = bI (inM x a b))) 0 0 (fun _ => False) := by
  refine Met.ofW (cc := cX3_in) (maxL := 3) (ret := (some .boolean)) (by decide) rfl ?_
  intro p e s m args below meth c s₁ B hml hv
  obtain ⟨rfl, -⟩ := hv
  have hx := B.exec
  have hb := B.bytes
  have hr := B.returns
  have hts := atoms_spec (ws := wsX3_in) B.pre
  have hown : s.vm.findClass RX3 = some m.cls := findClass_of_methodNamed B.named
  have hlocks := B.notSynchronized
  have hl := lv_entry ([.int x, .int a, .int b]) (n := 3) (Nat.le_of_ble_eq_true rfl)
  rw [lg_entry_eq]
  generalize (lg_sl ([.int x, .int a, .int b]) ++ List.replicate (3 - (lg_sl ([.int x, .int a, .int b])).length) Slot.unset).toArray = ls at hl ⊢
  have hl : lv_has ls 3 [(0, .int x), (1, .int a), (2, .int b)] := hl
  refine lv_iload_n hx hb dX3_in_0 rfl (lv_at hl 0 rfl) ?_
  refine lv_iload_n hx hb dX3_in_1 rfl (lv_at hl 1 rfl) ?_
  refine lv_icmp_lt (tgt := 14) hx hb dX3_in_2 (by decide) (fun c_2 => ?_) (fun c_2 => ?_)
  · refine lv_iconst (v := nI 0) hx hb dX3_in_14 (by decide) ?_
    exact W.zret (v := nI 0) hx hb hr rfl (fun t9 ht9 _ => ⟨_, rfl, (bI_i0 (by rw [inM, if_pos c_2])), ht9⟩) (fun _ h => by cases h) dX3_in_15
  · refine lv_iload_n hx hb dX3_in_5 rfl (lv_at hl 0 rfl) ?_
    refine lv_iload_n hx hb dX3_in_6 rfl (lv_at hl 2 rfl) ?_
    refine lv_icmp_gt (tgt := 14) hx hb dX3_in_7 (by decide) (fun c_7 => ?_) (fun c_7 => ?_)
    · refine lv_iconst (v := nI 0) hx hb dX3_in_14 (by decide) ?_
      exact W.zret (v := nI 0) hx hb hr rfl (fun t9 ht9 _ => ⟨_, rfl, (bI_i0 (by rw [inM, if_neg c_2, if_pos c_7])), ht9⟩) (fun _ h => by cases h) dX3_in_15
    · refine lv_iconst (v := nI 1) hx hb dX3_in_10 (by decide) ?_
      refine lv_goto (tgt := 15) hx hb dX3_in_11 (by decide) ?_
      exact W.zret (v := nI 1) hx hb hr rfl (fun t9 ht9 _ => ⟨_, rfl, (bI_i1 (by rw [inM, if_neg c_2, if_neg c_7])), ht9⟩) (fun _ h => by cases h) dX3_in_15

set_option maxHeartbeats 4000000 in
set_option maxRecDepth 100000 in
theorem k_X3_isPeer (l : Launch) (x : Int32) : Met l yX3_isPeer wsX3_isPeer ({ frames := 0, cells := 0, slots := 0, locals := 0 } : Room) (va_Pc [.int x] (fun _ => True)) (vp_Si (fun r => r = bI (isP x))) 0 0 (fun _ => False) := by
  refine Met.ofW (cc := cX3_isPeer) (maxL := 1) (ret := (some .boolean)) (by decide) rfl ?_
  intro p e s m args below meth c s₁ B hml hv
  obtain ⟨rfl, -⟩ := hv
  have hx := B.exec
  have hb := B.bytes
  have hr := B.returns
  have hts := atoms_spec (ws := wsX3_isPeer) B.pre
  have hown : s.vm.findClass RX3 = some m.cls := findClass_of_methodNamed B.named
  have hlocks := B.notSynchronized
  have hl := lv_entry ([.int x]) (n := 1) (Nat.le_of_ble_eq_true rfl)
  rw [lg_entry_eq]
  generalize (lg_sl ([.int x]) ++ List.replicate (1 - (lg_sl ([.int x])).length) Slot.unset).toArray = ls at hl ⊢
  have hl : lv_has ls 1 [(0, .int x)] := hl
  refine lv_iload_n hx hb dX3_isPeer_0 rfl (lv_at hl 0 rfl) ?_
  refine lv_if_eq (tgt := 9) hx hb dX3_isPeer_1 (by decide) (fun c_1 => ?_) (fun c_1 => ?_)
  · refine lv_iconst (v := nI 1) hx hb dX3_isPeer_9 (by decide) ?_
    refine lv_goto (tgt := 14) hx hb dX3_isPeer_10 (by decide) ?_
    exact W.zret (v := nI 1) hx hb hr rfl (fun t9 ht9 _ => ⟨_, rfl, (bI_i1 (isP_or.mpr (Or.inl c_1))), ht9⟩) (fun _ h => by cases h) dX3_isPeer_14
  · refine lv_iload_n hx hb dX3_isPeer_4 rfl (lv_at hl 0 rfl) ?_
    refine lv_iconst (v := nI 1) hx hb dX3_isPeer_5 (by decide) ?_
    refine lv_icmp_ne (tgt := 13) hx hb dX3_isPeer_6 (by decide) (fun c_6 => ?_) (fun c_6 => ?_)
    · refine lv_iconst (v := nI 0) hx hb dX3_isPeer_13 (by decide) ?_
      exact W.zret (v := nI 0) hx hb hr rfl (fun t9 ht9 _ => ⟨_, rfl, (bI_i0 (by cases h9 : isP x; rfl; exact absurd (isP_or.mp h9) (fun h => h.elim c_1 c_6))), ht9⟩) (fun _ h => by cases h) dX3_isPeer_14
    · refine lv_iconst (v := nI 1) hx hb dX3_isPeer_9 (by decide) ?_
      refine lv_goto (tgt := 14) hx hb dX3_isPeer_10 (by decide) ?_
      exact W.zret (v := nI 1) hx hb hr rfl (fun t9 ht9 _ => ⟨_, rfl, (bI_i1 (isP_or.mpr (Or.inr c_6))), ht9⟩) (fun _ h => by cases h) dX3_isPeer_14

set_option maxHeartbeats 4000000 in
set_option maxRecDepth 100000 in
theorem k_X3_isAlive (l : Launch) (G : GT) (S : SS) {t : Nat} (ht : t < 43) (x : Int32) : Met l yX3_isAlive wsX3_isAlive ({ frames := 1, cells := 0, slots := 0, locals := 22 } : Room) (va_Pc [.ref (gA G 0), .int (nI t), .int x] (mP G S)) (vp_Si (fun r => r = bI (mAl S t x))) 0 0 (fun _ => False) := by
  refine Met.ofW (cc := cX3_isAlive) (maxL := 3) (ret := (some .boolean)) (by decide) rfl ?_
  intro p e s m args below meth c s₁ B hml hv
  obtain ⟨rfl, hW, hK⟩ := hv
  have hx := B.exec
  have hb := B.bytes
  have hr := B.returns
  have hts := atoms_spec (ws := wsX3_isAlive) B.pre
  have hown : s.vm.findClass RX3 = some m.cls := findClass_of_methodNamed B.named
  have hlocks := B.notSynchronized
  have hS : va_S (gF G s.heap.size) s.heap s.heap [] := va_S.rf
  have inX3 : ∀ w ∈ u_ws RX3 TX3 22, w ∈ wsX3_isAlive := by decide +kernel
  have hl := lv_entry ([.ref (gA G 0), .int (nI t), .int x]) (n := 3) (Nat.le_of_ble_eq_true rfl)
  rw [lg_entry_eq]
  generalize (lg_sl ([.ref (gA G 0), .int (nI t), .int x]) ++ List.replicate (3 - (lg_sl ([.ref (gA G 0), .int (nI t), .int x])).length) Slot.unset).toArray = ls at hl ⊢
  have hl : lv_has ls 3 [(0, .ref (gA G 0)), (1, .int (nI t)), (2, .int x)] := hl
  refine lv_iload_n hx hb dX3_isAlive_0 rfl (lv_at hl 2 rfl) ?_
  refine lv_iconst (v := nI 0) hx hb dX3_isAlive_1 (by decide) ?_
  refine lv_bipush (v := nI 15) hx hb dX3_isAlive_2 (by decide) ?_
  refine pv_i (va_runS (As := [.int x, .int (nI 0), .int (nI 15)]) (rest := []) ⟨hx, hb, hml, hown, hts⟩ (k_X3_in l x (nI 0) (nI 15)) (va_cwS 3 hts gX3_isAlive_X3_in rfl rfl rfl (by decide +kernel) ⟨Nat.le_of_ble_eq_true rfl, Nat.le_of_ble_eq_true rfl⟩) ⟨(fun _ _ _ _ h => h), fun U _ _ => ⟨rfl, trivial⟩⟩ rfl rfl hl.1 rfl (lv_room (Nat.le_of_ble_eq_true rfl)) dX3_isAlive_4 ⟨Nat.le_of_ble_eq_true rfl, Nat.le_of_ble_eq_true rfl⟩) (fun r_1 hr_1 => ?_)
  have hr_1 : r_1 = bI (inM x (nI 0) (nI 15)) := hr_1
  subst hr_1
  refine bv_if_eq (b := inM x (nI 0) (nI 15)) (tgt := 28) hx hb dX3_isAlive_7 (by decide) (fun c_7 => ?_) (fun c_7 => ?_)
  · refine lv_iconst (v := nI 0) hx hb dX3_isAlive_28 (by decide) ?_
    exact W.zret (v := nI 0) hx hb hr rfl (fun t9 ht9 _ => ⟨_, rfl, (bI_i0 (by rw [inM_B x (by decide)] at c_7; rw [mAl, c_7]; rfl)), ht9⟩) (fun _ h => by cases h) dX3_isAlive_29
  · rw [inM_B x (by decide)] at c_7
    obtain ⟨j, hj, rfl⟩ := (inB_iff (by decide)).mp c_7
    refine lv_aload_n hx hb dX3_isAlive_10 rfl (lv_at hl 0 rfl) ?_
    refine va_get (D := gD G) (ci := 3) (v := .ref (gA G 4)) (C := RX3) (T := TX3) (N := 22) hx hb hts inX3 hown hK.1 hW 0 mw_0 rfl 6 (by decide) (hts (.fieldLink RX3 28 "MarkedTreesModel" "alive" "[I") (by decide +kernel)) (fun _ h9 => h9) rfl dX3_isAlive_11 ?_
    refine lv_iload_n hx hb dX3_isAlive_14 rfl (lv_at hl 1 rfl) ?_
    refine nv_iald hx hb hK.1 hW 4 0 mw_4 rfl (i := t) (by omega) (by decide) dX3_isAlive_15 ?_
    refine lv_iload_n hx hb dX3_isAlive_16 rfl (lv_at hl 2 rfl) ?_
    refine lv_ishr hx hb dX3_isAlive_17 ?_
    refine lv_iconst (v := nI 1) hx hb dX3_isAlive_18 (by decide) ?_
    refine lv_iand hx hb dX3_isAlive_19 ?_
    refine lv_iconst (v := nI 1) hx hb dX3_isAlive_20 (by decide) ?_
    refine lv_icmp_ne (tgt := 28) hx hb dX3_isAlive_21 (by decide) (fun c_21 => ?_) (fun c_21 => ?_)
    · refine lv_iconst (v := nI 0) hx hb dX3_isAlive_28 (by decide) ?_
      exact W.zret (v := nI 0) hx hb hr rfl (fun t9 ht9 _ => ⟨_, rfl, (bI_i0 (by rw [mAl_nI S t hj]; cases h9 : ti (S.1 4 t) j; rfl; exact absurd ((ti_shr _ (by omega)).mpr h9) c_21)), ht9⟩) (fun _ h => by cases h) dX3_isAlive_29
    · refine lv_iconst (v := nI 1) hx hb dX3_isAlive_24 (by decide) ?_
      refine lv_goto (tgt := 29) hx hb dX3_isAlive_25 (by decide) ?_
      exact W.zret (v := nI 1) hx hb hr rfl (fun t9 ht9 _ => ⟨_, rfl, (bI_i1 (by rw [mAl_nI S t hj]; exact (ti_shr _ (by omega)).mp c_21)), ht9⟩) (fun _ h => by cases h) dX3_isAlive_29

set_option maxHeartbeats 4000000 in
set_option maxRecDepth 100000 in
theorem k_X3_hasRevision (l : Launch) (G : GT) (S : SS) {rc : Nat} (hrc : S.1 0 1 = nI rc) (h1r : 1 ≤ rc) (h40 : rc ≤ 40) {i : Nat} (hi : i < 2) (x : Int32) : Met l yX3_hasRevision wsX3_hasRevision ({ frames := 1, cells := 0, slots := 0, locals := 22 } : Room) (va_Pc [.ref (gA G 0), .int (nI i), .int x] (mP G S)) (vp_Si (fun r => r = bI (mHas S rc i x))) 0 0 (fun _ => False) := by
  refine Met.ofW (cc := cX3_hasRevision) (maxL := 3) (ret := (some .boolean)) (by decide) rfl ?_
  intro p e s m args below meth c s₁ B hml hv
  obtain ⟨rfl, hW, hK⟩ := hv
  have hx := B.exec
  have hb := B.bytes
  have hr := B.returns
  have hts := atoms_spec (ws := wsX3_hasRevision) B.pre
  have hown : s.vm.findClass RX3 = some m.cls := findClass_of_methodNamed B.named
  have hlocks := B.notSynchronized
  have hS : va_S (gF G s.heap.size) s.heap s.heap [] := va_S.rf
  have inX3 : ∀ w ∈ u_ws RX3 TX3 22, w ∈ wsX3_hasRevision := by decide +kernel
  have hl := lv_entry ([.ref (gA G 0), .int (nI i), .int x]) (n := 3) (Nat.le_of_ble_eq_true rfl)
  rw [lg_entry_eq]
  generalize (lg_sl ([.ref (gA G 0), .int (nI i), .int x]) ++ List.replicate (3 - (lg_sl ([.ref (gA G 0), .int (nI i), .int x])).length) Slot.unset).toArray = ls at hl ⊢
  have hl : lv_has ls 3 [(0, .ref (gA G 0)), (1, .int (nI i)), (2, .int x)] := hl
  refine lv_iload_n hx hb dX3_hasRevision_0 rfl (lv_at hl 2 rfl) ?_
  refine lv_iconst (v := nI 0) hx hb dX3_hasRevision_1 (by decide) ?_
  refine lv_aload_n hx hb dX3_hasRevision_2 rfl (lv_at hl 0 rfl) ?_
  refine va_get (D := gD G) (ci := 3) (v := .int (nI rc)) (C := RX3) (T := TX3) (N := 22) hx hb hts inX3 hown hK.1 hW 0 mw_0 rfl 1 (by decide) (hts (.fieldLink RX3 7 "MarkedTreesModel" "revisions" "I") (by decide +kernel)) (fun _ h9 => h9) (by rw [← hrc]; rfl) dX3_hasRevision_3 ?_
  refine lv_iconst (v := nI 1) hx hb dX3_hasRevision_6 (by decide) ?_
  refine nv_isub hx hb (by omega) dX3_hasRevision_7 ?_
  refine pv_i (va_runS (As := [.int x, .int (nI 0), .int (nI (rc - 1))]) (rest := []) ⟨hx, hb, hml, hown, hts⟩ (k_X3_in l x (nI 0) (nI (rc - 1))) (va_cwS 3 hts gX3_hasRevision_X3_in rfl rfl rfl (by decide +kernel) ⟨Nat.le_of_ble_eq_true rfl, Nat.le_of_ble_eq_true rfl⟩) ⟨(fun _ _ _ _ h => h), fun U _ _ => ⟨rfl, trivial⟩⟩ rfl rfl hl.1 rfl (lv_room (Nat.le_of_ble_eq_true rfl)) dX3_hasRevision_8 ⟨Nat.le_of_ble_eq_true rfl, Nat.le_of_ble_eq_true rfl⟩) (fun r_1 hr_1 => ?_)
  have hr_1 : r_1 = bI (inM x (nI 0) (nI (rc - 1))) := hr_1
  subst hr_1
  refine bv_if_eq (b := inM x (nI 0) (nI (rc - 1))) (tgt := 33) hx hb dX3_hasRevision_11 (by decide) (fun c_11 => ?_) (fun c_11 => ?_)
  · refine lv_iconst (v := nI 0) hx hb dX3_hasRevision_33 (by decide) ?_
    exact W.zret (v := nI 0) hx hb hr rfl (fun t9 ht9 _ => ⟨_, rfl, (bI_i0 (by rw [inM_B x (by omega), Nat.sub_add_cancel h1r] at c_11; rw [mHas, c_11]; rfl)), ht9⟩) (fun _ h => by cases h) dX3_hasRevision_34
  · rw [inM_B x (by omega), Nat.sub_add_cancel h1r] at c_11
    obtain ⟨j, hj, rfl⟩ := (inB_iff (by omega)).mp c_11
    refine lv_aload_n hx hb dX3_hasRevision_14 rfl (lv_at hl 0 rfl) ?_
    refine va_get (D := gD G) (ci := 3) (v := .ref (gA G 10)) (C := RX3) (T := TX3) (N := 22) hx hb hts inX3 hown hK.1 hW 0 mw_0 rfl 12 (by decide) (hts (.fieldLink RX3 46 "MarkedTreesModel" "have" "[J") (by decide +kernel)) (fun _ h9 => h9) rfl dX3_hasRevision_15 ?_
    refine lv_iload_n hx hb dX3_hasRevision_18 rfl (lv_at hl 1 rfl) ?_
    refine nv_lald hx hb hK.1 hW 10 1 mw_10 rfl (i := i) (by omega) (by decide) dX3_hasRevision_19 ?_
    refine lv_iload_n hx hb dX3_hasRevision_20 rfl (lv_at hl 2 rfl) ?_
    refine lv_lshr (v := (S.2 10 i) >>> ((nI j).toInt64 &&& 63)) hx hb dX3_hasRevision_21 rfl ?_
    refine lv_lconst (v := 1) hx hb dX3_hasRevision_22 (by decide) ?_
    refine lv_land hx hb dX3_hasRevision_23 ?_
    refine lv_lconst (v := 1) hx hb dX3_hasRevision_24 (by decide) ?_
    refine W.lcmp hx hb dX3_hasRevision_25 ?_
    refine cv_if_ne (tgt := 33) hx hb dX3_hasRevision_26 (by decide) (fun c_26 => ?_) (fun c_26 => ?_)
    · refine lv_iconst (v := nI 0) hx hb dX3_hasRevision_33 (by decide) ?_
      exact W.zret (v := nI 0) hx hb hr rfl (fun t9 ht9 _ => ⟨_, rfl, (bI_i0 (by rw [mHas, inB_nI hj (by omega), cn_nI (by omega), Bool.true_and]; cases h9 : tb (S.2 10 i) j; rfl; exact absurd ((tb_shr1 _ (by omega)).mpr h9) c_26)), ht9⟩) (fun _ h => by cases h) dX3_hasRevision_34
    · refine lv_iconst (v := nI 1) hx hb dX3_hasRevision_29 (by decide) ?_
      refine lv_goto (tgt := 34) hx hb dX3_hasRevision_30 (by decide) ?_
      exact W.zret (v := nI 1) hx hb hr rfl (fun t9 ht9 _ => ⟨_, rfl, (bI_i1 (by rw [mHas, inB_nI hj (by omega), cn_nI (by omega), Bool.true_and]; exact (tb_shr1 _ (by omega)).mp c_26)), ht9⟩) (fun _ h => by cases h) dX3_hasRevision_34

set_option maxHeartbeats 4000000 in
set_option maxRecDepth 100000 in
theorem k_X3_known (l : Launch) (G : GT) (S : SS) {a r0 : Nat} (ha : a < 64) (hr0 : r0 < 40) : Met l yX3_known wsX3_known ({ frames := 0, cells := 0, slots := 0, locals := 0 } : Room) (va_Pc [.ref (gA G 0), .int (nI a), .int (nI r0)] (mP G S)) (vp_Si (fun r => r = bI (mKn S a r0))) 0 0 (fun _ => False) := by
  refine Met.ofW (cc := cX3_known) (maxL := 3) (ret := (some .boolean)) (by decide) rfl ?_
  intro p e s m args below meth c s₁ B hml hv
  obtain ⟨rfl, hW, hK⟩ := hv
  have hx := B.exec
  have hb := B.bytes
  have hr := B.returns
  have hts := atoms_spec (ws := wsX3_known) B.pre
  have hown : s.vm.findClass RX3 = some m.cls := findClass_of_methodNamed B.named
  have hlocks := B.notSynchronized
  have hS : va_S (gF G s.heap.size) s.heap s.heap [] := va_S.rf
  have inX3 : ∀ w ∈ u_ws RX3 TX3 22, w ∈ wsX3_known := by decide +kernel
  have hl := lv_entry ([.ref (gA G 0), .int (nI a), .int (nI r0)]) (n := 3) (Nat.le_of_ble_eq_true rfl)
  rw [lg_entry_eq]
  generalize (lg_sl ([.ref (gA G 0), .int (nI a), .int (nI r0)]) ++ List.replicate (3 - (lg_sl ([.ref (gA G 0), .int (nI a), .int (nI r0)])).length) Slot.unset).toArray = ls at hl ⊢
  have hl : lv_has ls 3 [(0, .ref (gA G 0)), (1, .int (nI a)), (2, .int (nI r0))] := hl
  refine lv_iload_n hx hb dX3_known_0 rfl (lv_at hl 1 rfl) ?_
  refine lv_iload_n hx hb dX3_known_1 rfl (lv_at hl 2 rfl) ?_
  refine nv_icmp_eq (tgt := 20) hx hb (by omega) (by omega) dX3_known_2 (by decide) (fun c_2 => ?_) (fun c_2 => ?_)
  · refine lv_iconst (v := nI 1) hx hb dX3_known_20 (by decide) ?_
    refine lv_goto (tgt := 25) hx hb dX3_known_21 (by decide) ?_
    exact W.zret (v := nI 1) hx hb hr rfl (fun t9 ht9 _ => ⟨_, rfl, (bI_i1 (by rw [mKn, decide_eq_true c_2]; rfl)), ht9⟩) (fun _ h => by cases h) dX3_known_25
  · refine lv_aload_n hx hb dX3_known_5 rfl (lv_at hl 0 rfl) ?_
    refine va_get (D := gD G) (ci := 3) (v := .ref (gA G 1)) (C := RX3) (T := TX3) (N := 22) hx hb hts inX3 hown hK.1 hW 0 mw_0 rfl 2 (by decide) (hts (.fieldLink RX3 13 "MarkedTreesModel" "ancestors" "[J") (by decide +kernel)) (fun _ h9 => h9) rfl dX3_known_6 ?_
    refine lv_iload_n hx hb dX3_known_9 rfl (lv_at hl 2 rfl) ?_
    refine nv_lald hx hb hK.1 hW 1 1 mw_1 rfl (i := r0) (by omega) (by decide) dX3_known_10 ?_
    refine lv_iload_n hx hb dX3_known_11 rfl (lv_at hl 1 rfl) ?_
    refine lv_lshr (v := (S.2 1 r0) >>> ((nI a).toInt64 &&& 63)) hx hb dX3_known_12 rfl ?_
    refine lv_lconst (v := 1) hx hb dX3_known_13 (by decide) ?_
    refine lv_land hx hb dX3_known_14 ?_
    refine lv_lconst (v := 1) hx hb dX3_known_15 (by decide) ?_
    refine W.lcmp hx hb dX3_known_16 ?_
    refine cv_if_ne (tgt := 24) hx hb dX3_known_17 (by decide) (fun c_17 => ?_) (fun c_17 => ?_)
    · refine lv_iconst (v := nI 0) hx hb dX3_known_24 (by decide) ?_
      exact W.zret (v := nI 0) hx hb hr rfl (fun t9 ht9 _ => ⟨_, rfl, (bI_i0 (by rw [mKn, decide_eq_false c_2, Bool.false_or]; cases h9 : tb (S.2 1 r0) a; rfl; exact absurd ((tb_shr1 _ (by omega)).mpr h9) c_17)), ht9⟩) (fun _ h => by cases h) dX3_known_25
    · refine lv_iconst (v := nI 1) hx hb dX3_known_20 (by decide) ?_
      refine lv_goto (tgt := 25) hx hb dX3_known_21 (by decide) ?_
      exact W.zret (v := nI 1) hx hb hr rfl (fun t9 ht9 _ => ⟨_, rfl, (bI_i1 (by rw [mKn, decide_eq_false c_2, Bool.false_or]; exact (tb_shr1 _ (by omega)).mp c_17)), ht9⟩) (fun _ h => by cases h) dX3_known_25

set_option maxHeartbeats 4000000 in
set_option maxRecDepth 100000 in
theorem k_X3_copyNode (l : Launch) (G : GT) (S : SS) (sz : Nat) {f t n : Nat} (hf : f < 43) (ht : t < 43) (hn : n < 16) : Met l yX3_copyNode wsX3_copyNode ({ frames := 0, cells := 0, slots := 0, locals := 0 } : Room) (va_Pc [.ref (gA G 0), .int (nI f), .int (nI t), .int (nI n)] (fun U => U.heap.size = sz ∧ mP G S U)) (va_Qv (fun S' => S' = mcn S f t n) (mB G) (gF G sz)) 0 0 (gF G sz) := by
  refine Met.ofW (cc := cX3_copyNode) (maxL := 7) (ret := none) (by decide) rfl ?_
  intro p e s m args below meth c s₁ B hml hv
  obtain ⟨rfl, hsz, hW, hK⟩ := hv
  subst hsz
  have hx := B.exec
  have hb := B.bytes
  have hr := B.returns
  have hts := atoms_spec (ws := wsX3_copyNode) B.pre
  have hown : s.vm.findClass RX3 = some m.cls := findClass_of_methodNamed B.named
  have hlocks := B.notSynchronized
  have hS : va_S (gF G s.heap.size) s.heap s.heap [] := va_S.rf
  have inX3 : ∀ w ∈ u_ws RX3 TX3 22, w ∈ wsX3_copyNode := by decide +kernel
  have hl := lv_entry ([.ref (gA G 0), .int (nI f), .int (nI t), .int (nI n)]) (n := 7) (Nat.le_of_ble_eq_true rfl)
  rw [lg_entry_eq]
  generalize (lg_sl ([.ref (gA G 0), .int (nI f), .int (nI t), .int (nI n)]) ++ List.replicate (7 - (lg_sl ([.ref (gA G 0), .int (nI f), .int (nI t), .int (nI n)])).length) Slot.unset).toArray = ls at hl ⊢
  have hl : lv_has ls 7 [(0, .ref (gA G 0)), (1, .int (nI f)), (2, .int (nI t)), (3, .int (nI n))] := hl
  have LP : ∀ (k : Nat) (w : Nat) (Q : SS) (H : Heap) (locs : List Loc), (mW G Q H) → (va_S (gF G s.heap.size) s.heap H locs) → (w + k = 3) → ∀ (ls : Array Slot), lv_has ls 7 [(0, .ref (gA G 0)), (1, .int (nI f)), (2, .int (nI t)), (3, .int (nI n)), (6, .int (nI w))] → W p l e (headSpec wsX3_copyNode ({ frames := 0, cells := 0, slots := 0, locals := 0 } : Room)).room s m ([.ref (gA G 0), .int (nI f), .int (nI t), .int (nI n)] : List Value).toArray below meth c H locs 0 0 (MQ below (va_Qv (fun S' => S' = mcnW f t n k w Q) (mB G) (gF G s.heap.size)) ([.ref (gA G 0), .int (nI f), .int (nI t), .int (nI n)] : List Value).toArray s 0 0 (gF G s.heap.size)) (F0 m 75 ls []) := by
    intro k
    induction k with
    | zero =>
      intro w Q H locs hW hS h2 ls hl
      refine lv_iload hx hb dX3_copyNode_75 (lv_at hl 4 rfl) ?_
      refine lv_iconst (v := nI 3) hx hb dX3_copyNode_77 (by decide) ?_
      refine nv_icmp_ge (tgt := 119) hx hb (by omega) (by omega) dX3_copyNode_78 (by decide) (fun c_78 => ?_) (fun c_78 => ?_)
      · exact W.vret hx hb hr (fun t9 ht9 _ => ⟨⟨Q, rfl, rfl, (show mW G Q t9.heap by rw [ht9]; exact hW)⟩, hS.F ht9⟩) hS.2.2 dX3_copyNode_119
      · exact absurd c_78 (by omega)
    | succ k ih =>
      intro w Q H locs hW hS h2 ls hl
      refine lv_iload hx hb dX3_copyNode_75 (lv_at hl 4 rfl) ?_
      refine lv_iconst (v := nI 3) hx hb dX3_copyNode_77 (by decide) ?_
      refine nv_icmp_ge (tgt := 119) hx hb (by omega) (by omega) dX3_copyNode_78 (by decide) (fun c_78 => ?_) (fun c_78 => ?_)
      · exact absurd c_78 (by omega)
      · refine lv_aload_n hx hb dX3_copyNode_81 rfl (lv_at hl 0 rfl) ?_
        refine va_get (D := gD G) (ci := 3) (v := .ref (gA G 9)) (C := RX3) (T := TX3) (N := 22) hx hb hts inX3 hown hK.1 hW 0 mw_0 rfl 11 (by decide) (hts (.fieldLink RX3 43 "MarkedTreesModel" "marks" "[J") (by decide +kernel)) (fun _ h9 => h9) rfl dX3_copyNode_82 ?_
        refine lv_bipush (v := nI 48) hx hb dX3_copyNode_85 (by decide) ?_
        refine lv_iload_n hx hb dX3_copyNode_87 rfl (lv_at hl 2 rfl) ?_
        refine nv_imul hx hb dX3_copyNode_88 ?_
        refine lv_iconst (v := nI 3) hx hb dX3_copyNode_89 (by decide) ?_
        refine lv_iload_n hx hb dX3_copyNode_90 rfl (lv_at hl 3 rfl) ?_
        refine nv_imul hx hb dX3_copyNode_91 ?_
        refine nv_iadd hx hb dX3_copyNode_92 ?_
        refine lv_iload hx hb dX3_copyNode_93 (lv_at hl 4 rfl) ?_
        refine nv_iadd hx hb dX3_copyNode_95 ?_
        refine lv_aload_n hx hb dX3_copyNode_96 rfl (lv_at hl 0 rfl) ?_
        refine va_get (D := gD G) (ci := 3) (v := .ref (gA G 9)) (C := RX3) (T := TX3) (N := 22) hx hb hts inX3 hown hK.1 hW 0 mw_0 rfl 11 (by decide) (hts (.fieldLink RX3 43 "MarkedTreesModel" "marks" "[J") (by decide +kernel)) (fun _ h9 => h9) rfl dX3_copyNode_97 ?_
        refine lv_bipush (v := nI 48) hx hb dX3_copyNode_100 (by decide) ?_
        refine lv_iload_n hx hb dX3_copyNode_102 rfl (lv_at hl 1 rfl) ?_
        refine nv_imul hx hb dX3_copyNode_103 ?_
        refine lv_iconst (v := nI 3) hx hb dX3_copyNode_104 (by decide) ?_
        refine lv_iload_n hx hb dX3_copyNode_105 rfl (lv_at hl 3 rfl) ?_
        refine nv_imul hx hb dX3_copyNode_106 ?_
        refine nv_iadd hx hb dX3_copyNode_107 ?_
        refine lv_iload hx hb dX3_copyNode_108 (lv_at hl 4 rfl) ?_
        refine nv_iadd hx hb dX3_copyNode_110 ?_
        refine nv_lald hx hb hK.1 hW 9 1 mw_9 rfl (i := ((48 * f) + (3 * n)) + w) (by omega) (by decide) dX3_copyNode_111 ?_
        refine nv_last hx hb hK.1 hW (wl_D hK.2.1) hS 9 1 mw_9 rfl (i := ((48 * t) + (3 * n)) + w) (by omega) (by decide) dX3_copyNode_112 (fun H locs hW hS => ?_)
        have hW : mW G (s2 Q 9 (((48 * t) + (3 * n)) + w) (Q.2 9 (((48 * f) + (3 * n)) + w))) H := mp_9 hW
        obtain ⟨S_1, eS_1⟩ : ∃ z, z = s2 Q 9 (((48 * t) + (3 * n)) + w) (Q.2 9 (((48 * f) + (3 * n)) + w)) := ⟨_, rfl⟩
        rw [← eS_1] at hW
        refine lv_iinc (v := nI (w + 1)) (lv' := [(6, .int (nI (w + 1))), (0, .ref (gA G 0)), (1, .int (nI f)), (2, .int (nI t)), (3, .int (nI n))]) hx hb dX3_copyNode_113 hl (k := 4) rfl (nI_add w 1) (by decide) rfl (fun ls hl => ?_)
        refine lv_goto (tgt := 75) hx hb dX3_copyNode_116 (by decide) ?_
        have E : mcnW f t n (k + 1) w Q = mcnW f t n k (w + 1) S_1 := by subst_vars; rfl
        rw [E]
        exact ih (w + 1) S_1 H locs hW hS (by omega) ls (lv_sub hl [1, 2, 3, 4, 0] rfl)
  refine lv_bipush (v := nI 16) hx hb dX3_copyNode_0 (by decide) ?_
  refine lv_iload_n hx hb dX3_copyNode_2 rfl (lv_at hl 1 rfl) ?_
  refine nv_imul hx hb dX3_copyNode_3 ?_
  refine lv_iload_n hx hb dX3_copyNode_4 rfl (lv_at hl 3 rfl) ?_
  refine nv_iadd hx hb dX3_copyNode_5 ?_
  refine lv_istore (lv' := [(4, .int (nI ((16 * f) + n))), (0, .ref (gA G 0)), (1, .int (nI f)), (2, .int (nI t)), (3, .int (nI n))]) hx hb dX3_copyNode_6 hl (by decide) rfl (fun ls hl => ?_)
  refine lv_bipush (v := nI 16) hx hb dX3_copyNode_8 (by decide) ?_
  refine lv_iload_n hx hb dX3_copyNode_10 rfl (lv_at hl 3 rfl) ?_
  refine nv_imul hx hb dX3_copyNode_11 ?_
  refine lv_iload_n hx hb dX3_copyNode_12 rfl (lv_at hl 4 rfl) ?_
  refine nv_iadd hx hb dX3_copyNode_13 ?_
  refine lv_istore (lv' := [(5, .int (nI ((16 * t) + n))), (4, .int (nI ((16 * f) + n))), (0, .ref (gA G 0)), (1, .int (nI f)), (2, .int (nI t)), (3, .int (nI n))]) hx hb dX3_copyNode_14 hl (by decide) rfl (fun ls hl => ?_)
  refine lv_aload_n hx hb dX3_copyNode_16 rfl (lv_at hl 2 rfl) ?_
  refine va_get (D := gD G) (ci := 3) (v := .ref (gA G 5)) (C := RX3) (T := TX3) (N := 22) hx hb hts inX3 hown hK.1 hW 0 mw_0 rfl 7 (by decide) (hts (.fieldLink RX3 31 "MarkedTreesModel" "parent" "[I") (by decide +kernel)) (fun _ h9 => h9) rfl dX3_copyNode_17 ?_
  refine lv_iload hx hb dX3_copyNode_20 (lv_at hl 0 rfl) ?_
  refine lv_aload_n hx hb dX3_copyNode_22 rfl (lv_at hl 2 rfl) ?_
  refine va_get (D := gD G) (ci := 3) (v := .ref (gA G 5)) (C := RX3) (T := TX3) (N := 22) hx hb hts inX3 hown hK.1 hW 0 mw_0 rfl 7 (by decide) (hts (.fieldLink RX3 31 "MarkedTreesModel" "parent" "[I") (by decide +kernel)) (fun _ h9 => h9) rfl dX3_copyNode_23 ?_
  refine lv_iload hx hb dX3_copyNode_26 (lv_at hl 1 rfl) ?_
  refine nv_iald hx hb hK.1 hW 5 0 mw_5 rfl (i := (16 * f) + n) (by omega) (by decide) dX3_copyNode_28 ?_
  refine nv_iast hx hb hK.1 hW (wl_D hK.2.1) hS 5 0 mw_5 rfl (i := (16 * t) + n) (by omega) (by decide) dX3_copyNode_29 (fun H locs hW hS => ?_)
  have hW : mW G (s1 S 5 ((16 * t) + n) (S.1 5 ((16 * f) + n))) H := mp_5 hW
  obtain ⟨S_2, eS_2⟩ : ∃ z, z = s1 S 5 ((16 * t) + n) (S.1 5 ((16 * f) + n)) := ⟨_, rfl⟩
  rw [← eS_2] at hW
  refine lv_aload_n hx hb dX3_copyNode_30 rfl (lv_at hl 2 rfl) ?_
  refine va_get (D := gD G) (ci := 3) (v := .ref (gA G 6)) (C := RX3) (T := TX3) (N := 22) hx hb hts inX3 hown hK.1 hW 0 mw_0 rfl 8 (by decide) (hts (.fieldLink RX3 34 "MarkedTreesModel" "name" "[I") (by decide +kernel)) (fun _ h9 => h9) rfl dX3_copyNode_31 ?_
  refine lv_iload hx hb dX3_copyNode_34 (lv_at hl 0 rfl) ?_
  refine lv_aload_n hx hb dX3_copyNode_36 rfl (lv_at hl 2 rfl) ?_
  refine va_get (D := gD G) (ci := 3) (v := .ref (gA G 6)) (C := RX3) (T := TX3) (N := 22) hx hb hts inX3 hown hK.1 hW 0 mw_0 rfl 8 (by decide) (hts (.fieldLink RX3 34 "MarkedTreesModel" "name" "[I") (by decide +kernel)) (fun _ h9 => h9) rfl dX3_copyNode_37 ?_
  refine lv_iload hx hb dX3_copyNode_40 (lv_at hl 1 rfl) ?_
  refine nv_iald hx hb hK.1 hW 6 0 mw_6 rfl (i := (16 * f) + n) (by omega) (by decide) dX3_copyNode_42 ?_
  refine nv_iast hx hb hK.1 hW (wl_D hK.2.1) hS 6 0 mw_6 rfl (i := (16 * t) + n) (by omega) (by decide) dX3_copyNode_43 (fun H locs hW hS => ?_)
  have hW : mW G (s1 S_2 6 ((16 * t) + n) (S_2.1 6 ((16 * f) + n))) H := mp_6 hW
  obtain ⟨S_3, eS_3⟩ : ∃ z, z = s1 S_2 6 ((16 * t) + n) (S_2.1 6 ((16 * f) + n)) := ⟨_, rfl⟩
  rw [← eS_3] at hW
  refine lv_aload_n hx hb dX3_copyNode_44 rfl (lv_at hl 2 rfl) ?_
  refine va_get (D := gD G) (ci := 3) (v := .ref (gA G 7)) (C := RX3) (T := TX3) (N := 22) hx hb hts inX3 hown hK.1 hW 0 mw_0 rfl 9 (by decide) (hts (.fieldLink RX3 37 "MarkedTreesModel" "content" "[I") (by decide +kernel)) (fun _ h9 => h9) rfl dX3_copyNode_45 ?_
  refine lv_iload hx hb dX3_copyNode_48 (lv_at hl 0 rfl) ?_
  refine lv_aload_n hx hb dX3_copyNode_50 rfl (lv_at hl 2 rfl) ?_
  refine va_get (D := gD G) (ci := 3) (v := .ref (gA G 7)) (C := RX3) (T := TX3) (N := 22) hx hb hts inX3 hown hK.1 hW 0 mw_0 rfl 9 (by decide) (hts (.fieldLink RX3 37 "MarkedTreesModel" "content" "[I") (by decide +kernel)) (fun _ h9 => h9) rfl dX3_copyNode_51 ?_
  refine lv_iload hx hb dX3_copyNode_54 (lv_at hl 1 rfl) ?_
  refine nv_iald hx hb hK.1 hW 7 0 mw_7 rfl (i := (16 * f) + n) (by omega) (by decide) dX3_copyNode_56 ?_
  refine nv_iast hx hb hK.1 hW (wl_D hK.2.1) hS 7 0 mw_7 rfl (i := (16 * t) + n) (by omega) (by decide) dX3_copyNode_57 (fun H locs hW hS => ?_)
  have hW : mW G (s1 S_3 7 ((16 * t) + n) (S_3.1 7 ((16 * f) + n))) H := mp_7 hW
  obtain ⟨S_4, eS_4⟩ : ∃ z, z = s1 S_3 7 ((16 * t) + n) (S_3.1 7 ((16 * f) + n)) := ⟨_, rfl⟩
  rw [← eS_4] at hW
  refine lv_aload_n hx hb dX3_copyNode_58 rfl (lv_at hl 2 rfl) ?_
  refine va_get (D := gD G) (ci := 3) (v := .ref (gA G 8)) (C := RX3) (T := TX3) (N := 22) hx hb hts inX3 hown hK.1 hW 0 mw_0 rfl 10 (by decide) (hts (.fieldLink RX3 40 "MarkedTreesModel" "attribute" "[I") (by decide +kernel)) (fun _ h9 => h9) rfl dX3_copyNode_59 ?_
  refine lv_iload hx hb dX3_copyNode_62 (lv_at hl 0 rfl) ?_
  refine lv_aload_n hx hb dX3_copyNode_64 rfl (lv_at hl 2 rfl) ?_
  refine va_get (D := gD G) (ci := 3) (v := .ref (gA G 8)) (C := RX3) (T := TX3) (N := 22) hx hb hts inX3 hown hK.1 hW 0 mw_0 rfl 10 (by decide) (hts (.fieldLink RX3 40 "MarkedTreesModel" "attribute" "[I") (by decide +kernel)) (fun _ h9 => h9) rfl dX3_copyNode_65 ?_
  refine lv_iload hx hb dX3_copyNode_68 (lv_at hl 1 rfl) ?_
  refine nv_iald hx hb hK.1 hW 8 0 mw_8 rfl (i := (16 * f) + n) (by omega) (by decide) dX3_copyNode_70 ?_
  refine nv_iast hx hb hK.1 hW (wl_D hK.2.1) hS 8 0 mw_8 rfl (i := (16 * t) + n) (by omega) (by decide) dX3_copyNode_71 (fun H locs hW hS => ?_)
  have hW : mW G (s1 S_4 8 ((16 * t) + n) (S_4.1 8 ((16 * f) + n))) H := mp_8 hW
  obtain ⟨S_5, eS_5⟩ : ∃ z, z = s1 S_4 8 ((16 * t) + n) (S_4.1 8 ((16 * f) + n)) := ⟨_, rfl⟩
  rw [← eS_5] at hW
  refine lv_iconst (v := nI 0) hx hb dX3_copyNode_72 (by decide) ?_
  refine lv_istore (lv' := [(6, .int (nI 0)), (5, .int (nI ((16 * t) + n))), (4, .int (nI ((16 * f) + n))), (0, .ref (gA G 0)), (1, .int (nI f)), (2, .int (nI t)), (3, .int (nI n))]) hx hb dX3_copyNode_73 hl (by decide) rfl (fun ls hl => ?_)
  have E : mcn S f t n = mcnW f t n 3 0 S_5 := by subst_vars; rfl
  rw [E]
  exact LP 3 0 S_5 H locs hW hS (by omega) ls (lv_sub hl [3, 4, 5, 6, 0] rfl)

set_option maxHeartbeats 4000000 in
set_option maxRecDepth 100000 in
theorem k_X3_copyTree (l : Launch) (G : GT) (S : SS) (sz : Nat) {f t : Nat} (hf : f < 43) (ht : t < 43) : Met l yX3_copyTree wsX3_copyTree ({ frames := 1, cells := 0, slots := 0, locals := 26 } : Room) (va_Pc [.ref (gA G 0), .int (nI f), .int (nI t)] (fun U => U.heap.size = sz ∧ mP G S U)) (va_Qv (fun S' => S' = mct S f t) (mB G) (gF G sz)) 0 0 (gF G sz) := by
  refine Met.ofW (cc := cX3_copyTree) (maxL := 4) (ret := none) (by decide) rfl ?_
  intro p e s m args below meth c s₁ B hml hv
  obtain ⟨rfl, hsz, hW, hK⟩ := hv
  subst hsz
  have hx := B.exec
  have hb := B.bytes
  have hr := B.returns
  have hts := atoms_spec (ws := wsX3_copyTree) B.pre
  have hown : s.vm.findClass RX3 = some m.cls := findClass_of_methodNamed B.named
  have hlocks := B.notSynchronized
  have hS : va_S (gF G s.heap.size) s.heap s.heap [] := va_S.rf
  have inX3 : ∀ w ∈ u_ws RX3 TX3 22, w ∈ wsX3_copyTree := by decide +kernel
  have hl := lv_entry ([.ref (gA G 0), .int (nI f), .int (nI t)]) (n := 4) (Nat.le_of_ble_eq_true rfl)
  rw [lg_entry_eq]
  generalize (lg_sl ([.ref (gA G 0), .int (nI f), .int (nI t)]) ++ List.replicate (4 - (lg_sl ([.ref (gA G 0), .int (nI f), .int (nI t)])).length) Slot.unset).toArray = ls at hl ⊢
  have hl : lv_has ls 4 [(0, .ref (gA G 0)), (1, .int (nI f)), (2, .int (nI t))] := hl
  have LP : ∀ (k : Nat) (n : Nat) (Q : SS) (H : Heap) (locs : List Loc), (mW G Q H) → (va_S (gF G s.heap.size) s.heap H locs) → (n + k = 16) → ∀ (ls : Array Slot), lv_has ls 4 [(0, .ref (gA G 0)), (1, .int (nI f)), (2, .int (nI t)), (3, .int (nI n))] → W p l e (headSpec wsX3_copyTree ({ frames := 1, cells := 0, slots := 0, locals := 26 } : Room)).room s m ([.ref (gA G 0), .int (nI f), .int (nI t)] : List Value).toArray below meth c H locs 0 0 (MQ below (va_Qv (fun S' => S' = mctG f t k n Q) (mB G) (gF G s.heap.size)) ([.ref (gA G 0), .int (nI f), .int (nI t)] : List Value).toArray s 0 0 (gF G s.heap.size)) (F0 m 14 ls []) := by
    intro k
    induction k with
    | zero =>
      intro n Q H locs hW hS h2 ls hl
      refine lv_iload_n hx hb dX3_copyTree_14 rfl (lv_at hl 3 rfl) ?_
      refine lv_bipush (v := nI 16) hx hb dX3_copyTree_15 (by decide) ?_
      refine nv_icmp_ge (tgt := 33) hx hb (by omega) (by omega) dX3_copyTree_17 (by decide) (fun c_17 => ?_) (fun c_17 => ?_)
      · exact W.vret hx hb hr (fun t9 ht9 _ => ⟨⟨Q, rfl, rfl, (show mW G Q t9.heap by rw [ht9]; exact hW)⟩, hS.F ht9⟩) hS.2.2 dX3_copyTree_33
      · exact absurd c_17 (by omega)
    | succ k ih =>
      intro n Q H locs hW hS h2 ls hl
      refine lv_iload_n hx hb dX3_copyTree_14 rfl (lv_at hl 3 rfl) ?_
      refine lv_bipush (v := nI 16) hx hb dX3_copyTree_15 (by decide) ?_
      refine nv_icmp_ge (tgt := 33) hx hb (by omega) (by omega) dX3_copyTree_17 (by decide) (fun c_17 => ?_) (fun c_17 => ?_)
      · exact absurd c_17 (by omega)
      · refine lv_aload_n hx hb dX3_copyTree_20 rfl (lv_at hl 0 rfl) ?_
        refine lv_iload_n hx hb dX3_copyTree_21 rfl (lv_at hl 1 rfl) ?_
        refine lv_iload_n hx hb dX3_copyTree_22 rfl (lv_at hl 2 rfl) ?_
        refine lv_iload_n hx hb dX3_copyTree_23 rfl (lv_at hl 3 rfl) ?_
        refine ev_v (va_runV (As := [.int (nI f), .int (nI t), .int (nI n)]) (rest := []) ⟨hx, hb, hml, hown, hts⟩ (k_X3_copyNode l G Q H.size (f := f) (t := t) (n := n) (by omega) (by omega) (by omega)) (cwV 3 hts gX3_copyTree_X3_copyNode rfl rfl rfl (by decide +kernel) ⟨Nat.le_of_ble_eq_true rfl, Nat.le_of_ble_eq_true rfl⟩) ⟨mQ_blind, m_recv hW hK, mQ_at hW hK hS⟩ rfl rfl hl.1 rfl (lv_room (Nat.le_of_ble_eq_true rfl)) dX3_copyTree_24 ⟨Nat.le_of_ble_eq_true rfl, Nat.le_of_ble_eq_true rfl⟩) hS (fun S_1 t9 H locs ht9 hS_1 hW hS => ?_)
        have hW : mW G S_1 H := ht9 ▸ hW
        refine lv_iinc (v := nI (n + 1)) (lv' := [(3, .int (nI (n + 1))), (0, .ref (gA G 0)), (1, .int (nI f)), (2, .int (nI t))]) hx hb dX3_copyTree_27 hl (k := 3) rfl (nI_add n 1) (by decide) rfl (fun ls hl => ?_)
        refine lv_goto (tgt := 14) hx hb dX3_copyTree_30 (by decide) ?_
        have E : mctG f t (k + 1) n Q = mctG f t k (n + 1) S_1 := by rw [mctG, hS_1]
        rw [E]
        exact ih (n + 1) S_1 H locs hW hS (by omega) ls (lv_sub hl [1, 2, 3, 0] rfl)
  refine lv_aload_n hx hb dX3_copyTree_0 rfl (lv_at hl 0 rfl) ?_
  refine va_get (D := gD G) (ci := 3) (v := .ref (gA G 4)) (C := RX3) (T := TX3) (N := 22) hx hb hts inX3 hown hK.1 hW 0 mw_0 rfl 6 (by decide) (hts (.fieldLink RX3 28 "MarkedTreesModel" "alive" "[I") (by decide +kernel)) (fun _ h9 => h9) rfl dX3_copyTree_1 ?_
  refine lv_iload_n hx hb dX3_copyTree_4 rfl (lv_at hl 2 rfl) ?_
  refine lv_aload_n hx hb dX3_copyTree_5 rfl (lv_at hl 0 rfl) ?_
  refine va_get (D := gD G) (ci := 3) (v := .ref (gA G 4)) (C := RX3) (T := TX3) (N := 22) hx hb hts inX3 hown hK.1 hW 0 mw_0 rfl 6 (by decide) (hts (.fieldLink RX3 28 "MarkedTreesModel" "alive" "[I") (by decide +kernel)) (fun _ h9 => h9) rfl dX3_copyTree_6 ?_
  refine lv_iload_n hx hb dX3_copyTree_9 rfl (lv_at hl 1 rfl) ?_
  refine nv_iald hx hb hK.1 hW 4 0 mw_4 rfl (i := f) (by omega) (by decide) dX3_copyTree_10 ?_
  refine nv_iast hx hb hK.1 hW (wl_D hK.2.1) hS 4 0 mw_4 rfl (i := t) (by omega) (by decide) dX3_copyTree_11 (fun H locs hW hS => ?_)
  have hW : mW G (s1 S 4 t (S.1 4 f)) H := mp_4 hW
  obtain ⟨S_2, eS_2⟩ : ∃ z, z = s1 S 4 t (S.1 4 f) := ⟨_, rfl⟩
  rw [← eS_2] at hW
  refine lv_iconst (v := nI 0) hx hb dX3_copyTree_12 (by decide) ?_
  refine lv_istore_n (lv' := [(3, .int (nI 0)), (0, .ref (gA G 0)), (1, .int (nI f)), (2, .int (nI t))]) hx hb dX3_copyTree_13 rfl hl (by decide) rfl (fun ls hl => ?_)
  have E : mct S f t = mctG f t 16 0 S_2 := by rw [mct, eS_2]
  rw [E]
  exact LP 16 0 S_2 H locs hW hS (by omega) ls (lv_sub hl [1, 2, 3, 0] rfl)

set_option maxHeartbeats 4000000 in
set_option maxRecDepth 100000 in
theorem k_X3_same (l : Launch) (G : GT) (S : SS) {t u n k : Nat} (ht : t < 43) (hu : u < 43) (hn : n < 16) (hk : k < 3) : Met l yX3_same wsX3_same ({ frames := 0, cells := 0, slots := 0, locals := 0 } : Room) (va_Pc [.ref (gA G 0), .int (nI t), .int (nI u), .int (nI n), .int (nI k)] (mP G S)) (vp_Si (fun r => r = bI (sameM S t u n k))) 0 0 (fun _ => False) := by
  refine Met.ofW (cc := cX3_same) (maxL := 7) (ret := (some .boolean)) (by decide) rfl ?_
  intro p e s m args below meth c s₁ B hml hv
  obtain ⟨rfl, hW, hK⟩ := hv
  have hx := B.exec
  have hb := B.bytes
  have hr := B.returns
  have hts := atoms_spec (ws := wsX3_same) B.pre
  have hown : s.vm.findClass RX3 = some m.cls := findClass_of_methodNamed B.named
  have hlocks := B.notSynchronized
  have hS : va_S (gF G s.heap.size) s.heap s.heap [] := va_S.rf
  have inX3 : ∀ w ∈ u_ws RX3 TX3 22, w ∈ wsX3_same := by decide +kernel
  have hl := lv_entry ([.ref (gA G 0), .int (nI t), .int (nI u), .int (nI n), .int (nI k)]) (n := 7) (Nat.le_of_ble_eq_true rfl)
  rw [lg_entry_eq]
  generalize (lg_sl ([.ref (gA G 0), .int (nI t), .int (nI u), .int (nI n), .int (nI k)]) ++ List.replicate (7 - (lg_sl ([.ref (gA G 0), .int (nI t), .int (nI u), .int (nI n), .int (nI k)])).length) Slot.unset).toArray = ls at hl ⊢
  have hl : lv_has ls 7 [(0, .ref (gA G 0)), (1, .int (nI t)), (2, .int (nI u)), (3, .int (nI n)), (4, .int (nI k))] := hl
  refine lv_bipush (v := nI 16) hx hb dX3_same_0 (by decide) ?_
  refine lv_iload_n hx hb dX3_same_2 rfl (lv_at hl 1 rfl) ?_
  refine nv_imul hx hb dX3_same_3 ?_
  refine lv_iload_n hx hb dX3_same_4 rfl (lv_at hl 3 rfl) ?_
  refine nv_iadd hx hb dX3_same_5 ?_
  refine lv_istore (lv' := [(5, .int (nI ((16 * t) + n))), (0, .ref (gA G 0)), (1, .int (nI t)), (2, .int (nI u)), (3, .int (nI n)), (4, .int (nI k))]) hx hb dX3_same_6 hl (by decide) rfl (fun ls hl => ?_)
  refine lv_bipush (v := nI 16) hx hb dX3_same_8 (by decide) ?_
  refine lv_iload_n hx hb dX3_same_10 rfl (lv_at hl 3 rfl) ?_
  refine nv_imul hx hb dX3_same_11 ?_
  refine lv_iload_n hx hb dX3_same_12 rfl (lv_at hl 4 rfl) ?_
  refine nv_iadd hx hb dX3_same_13 ?_
  refine lv_istore (lv' := [(6, .int (nI ((16 * u) + n))), (5, .int (nI ((16 * t) + n))), (0, .ref (gA G 0)), (1, .int (nI t)), (2, .int (nI u)), (3, .int (nI n)), (4, .int (nI k))]) hx hb dX3_same_14 hl (by decide) rfl (fun ls hl => ?_)
  refine lv_iload hx hb dX3_same_16 (lv_at hl 6 rfl) ?_
  refine lv_if_ne (tgt := 63) hx hb dX3_same_18 (by decide) (fun c_18 => ?_) (fun c_18 => ?_)
  · refine lv_iload hx hb dX3_same_63 (lv_at hl 6 rfl) ?_
    refine lv_iconst (v := nI 1) hx hb dX3_same_65 (by decide) ?_
    refine nv_icmp_ne (tgt := 94) hx hb (by omega) (by omega) dX3_same_66 (by decide) (fun c_66 => ?_) (fun c_66 => ?_)
    · refine lv_aload_n hx hb dX3_same_94 rfl (lv_at hl 2 rfl) ?_
      refine va_get (D := gD G) (ci := 3) (v := .ref (gA G 8)) (C := RX3) (T := TX3) (N := 22) hx hb hts inX3 hown hK.1 hW 0 mw_0 rfl 10 (by decide) (hts (.fieldLink RX3 40 "MarkedTreesModel" "attribute" "[I") (by decide +kernel)) (fun _ h9 => h9) rfl dX3_same_95 ?_
      refine lv_iload hx hb dX3_same_98 (lv_at hl 1 rfl) ?_
      refine nv_iald hx hb hK.1 hW 8 0 mw_8 rfl (i := (16 * t) + n) (by omega) (by decide) dX3_same_100 ?_
      refine lv_aload_n hx hb dX3_same_101 rfl (lv_at hl 2 rfl) ?_
      refine va_get (D := gD G) (ci := 3) (v := .ref (gA G 8)) (C := RX3) (T := TX3) (N := 22) hx hb hts inX3 hown hK.1 hW 0 mw_0 rfl 10 (by decide) (hts (.fieldLink RX3 40 "MarkedTreesModel" "attribute" "[I") (by decide +kernel)) (fun _ h9 => h9) rfl dX3_same_102 ?_
      refine lv_iload hx hb dX3_same_105 (lv_at hl 0 rfl) ?_
      refine nv_iald hx hb hK.1 hW 8 0 mw_8 rfl (i := (16 * u) + n) (by omega) (by decide) dX3_same_107 ?_
      refine lv_icmp_ne (tgt := 115) hx hb dX3_same_108 (by decide) (fun c_108 => ?_) (fun c_108 => ?_)
      · refine lv_iconst (v := nI 0) hx hb dX3_same_115 (by decide) ?_
        exact W.zret (v := nI 0) hx hb hr rfl (fun t9 ht9 _ => ⟨_, rfl, (bI_i0 (by rw [sameM, if_neg (fun z => c_18 (by rw [z]; rfl)), if_neg (by omega)]; simp [c_108])), ht9⟩) (fun _ h => by cases h) dX3_same_116
      · refine lv_iconst (v := nI 1) hx hb dX3_same_111 (by decide) ?_
        refine lv_goto (tgt := 116) hx hb dX3_same_112 (by decide) ?_
        exact W.zret (v := nI 1) hx hb hr rfl (fun t9 ht9 _ => ⟨_, rfl, (bI_i1 (by rw [sameM, if_neg (fun z => c_18 (by rw [z]; rfl)), if_neg (by omega)]; simp [c_108])), ht9⟩) (fun _ h => by cases h) dX3_same_116
    · refine lv_aload_n hx hb dX3_same_69 rfl (lv_at hl 2 rfl) ?_
      refine va_get (D := gD G) (ci := 3) (v := .ref (gA G 7)) (C := RX3) (T := TX3) (N := 22) hx hb hts inX3 hown hK.1 hW 0 mw_0 rfl 9 (by decide) (hts (.fieldLink RX3 37 "MarkedTreesModel" "content" "[I") (by decide +kernel)) (fun _ h9 => h9) rfl dX3_same_70 ?_
      refine lv_iload hx hb dX3_same_73 (lv_at hl 1 rfl) ?_
      refine nv_iald hx hb hK.1 hW 7 0 mw_7 rfl (i := (16 * t) + n) (by omega) (by decide) dX3_same_75 ?_
      refine lv_aload_n hx hb dX3_same_76 rfl (lv_at hl 2 rfl) ?_
      refine va_get (D := gD G) (ci := 3) (v := .ref (gA G 7)) (C := RX3) (T := TX3) (N := 22) hx hb hts inX3 hown hK.1 hW 0 mw_0 rfl 9 (by decide) (hts (.fieldLink RX3 37 "MarkedTreesModel" "content" "[I") (by decide +kernel)) (fun _ h9 => h9) rfl dX3_same_77 ?_
      refine lv_iload hx hb dX3_same_80 (lv_at hl 0 rfl) ?_
      refine nv_iald hx hb hK.1 hW 7 0 mw_7 rfl (i := (16 * u) + n) (by omega) (by decide) dX3_same_82 ?_
      refine lv_icmp_ne (tgt := 90) hx hb dX3_same_83 (by decide) (fun c_83 => ?_) (fun c_83 => ?_)
      · refine lv_iconst (v := nI 0) hx hb dX3_same_90 (by decide) ?_
        refine lv_goto (tgt := 116) hx hb dX3_same_91 (by decide) ?_
        exact W.zret (v := nI 0) hx hb hr rfl (fun t9 ht9 _ => ⟨_, rfl, (bI_i0 (by have k1 : k = 1 := (by omega); subst k1; rw [sameM, if_neg (by decide), if_pos rfl]; simp [c_83])), ht9⟩) (fun _ h => by cases h) dX3_same_116
      · refine lv_iconst (v := nI 1) hx hb dX3_same_86 (by decide) ?_
        refine lv_goto (tgt := 116) hx hb dX3_same_87 (by decide) ?_
        exact W.zret (v := nI 1) hx hb hr rfl (fun t9 ht9 _ => ⟨_, rfl, (bI_i1 (by have k1 : k = 1 := (by omega); subst k1; rw [sameM, if_neg (by decide), if_pos rfl]; simp [c_83])), ht9⟩) (fun _ h => by cases h) dX3_same_116
  · refine lv_aload_n hx hb dX3_same_21 rfl (lv_at hl 2 rfl) ?_
    refine va_get (D := gD G) (ci := 3) (v := .ref (gA G 5)) (C := RX3) (T := TX3) (N := 22) hx hb hts inX3 hown hK.1 hW 0 mw_0 rfl 7 (by decide) (hts (.fieldLink RX3 31 "MarkedTreesModel" "parent" "[I") (by decide +kernel)) (fun _ h9 => h9) rfl dX3_same_22 ?_
    refine lv_iload hx hb dX3_same_25 (lv_at hl 1 rfl) ?_
    refine nv_iald hx hb hK.1 hW 5 0 mw_5 rfl (i := (16 * t) + n) (by omega) (by decide) dX3_same_27 ?_
    refine lv_aload_n hx hb dX3_same_28 rfl (lv_at hl 2 rfl) ?_
    refine va_get (D := gD G) (ci := 3) (v := .ref (gA G 5)) (C := RX3) (T := TX3) (N := 22) hx hb hts inX3 hown hK.1 hW 0 mw_0 rfl 7 (by decide) (hts (.fieldLink RX3 31 "MarkedTreesModel" "parent" "[I") (by decide +kernel)) (fun _ h9 => h9) rfl dX3_same_29 ?_
    refine lv_iload hx hb dX3_same_32 (lv_at hl 0 rfl) ?_
    refine nv_iald hx hb hK.1 hW 5 0 mw_5 rfl (i := (16 * u) + n) (by omega) (by decide) dX3_same_34 ?_
    refine lv_icmp_ne (tgt := 59) hx hb dX3_same_35 (by decide) (fun c_35 => ?_) (fun c_35 => ?_)
    · refine lv_iconst (v := nI 0) hx hb dX3_same_59 (by decide) ?_
      refine lv_goto (tgt := 116) hx hb dX3_same_60 (by decide) ?_
      exact W.zret (v := nI 0) hx hb hr rfl (fun t9 ht9 _ => ⟨_, rfl, (bI_i0 (by have k0 : k = 0 := (nI_eq (by omega) (by decide)).mp c_18; subst k0; rw [sameM, if_pos rfl]; simp [c_35])), ht9⟩) (fun _ h => by cases h) dX3_same_116
    · refine lv_aload_n hx hb dX3_same_38 rfl (lv_at hl 2 rfl) ?_
      refine va_get (D := gD G) (ci := 3) (v := .ref (gA G 6)) (C := RX3) (T := TX3) (N := 22) hx hb hts inX3 hown hK.1 hW 0 mw_0 rfl 8 (by decide) (hts (.fieldLink RX3 34 "MarkedTreesModel" "name" "[I") (by decide +kernel)) (fun _ h9 => h9) rfl dX3_same_39 ?_
      refine lv_iload hx hb dX3_same_42 (lv_at hl 1 rfl) ?_
      refine nv_iald hx hb hK.1 hW 6 0 mw_6 rfl (i := (16 * t) + n) (by omega) (by decide) dX3_same_44 ?_
      refine lv_aload_n hx hb dX3_same_45 rfl (lv_at hl 2 rfl) ?_
      refine va_get (D := gD G) (ci := 3) (v := .ref (gA G 6)) (C := RX3) (T := TX3) (N := 22) hx hb hts inX3 hown hK.1 hW 0 mw_0 rfl 8 (by decide) (hts (.fieldLink RX3 34 "MarkedTreesModel" "name" "[I") (by decide +kernel)) (fun _ h9 => h9) rfl dX3_same_46 ?_
      refine lv_iload hx hb dX3_same_49 (lv_at hl 0 rfl) ?_
      refine nv_iald hx hb hK.1 hW 6 0 mw_6 rfl (i := (16 * u) + n) (by omega) (by decide) dX3_same_51 ?_
      refine lv_icmp_ne (tgt := 59) hx hb dX3_same_52 (by decide) (fun c_52 => ?_) (fun c_52 => ?_)
      · refine lv_iconst (v := nI 0) hx hb dX3_same_59 (by decide) ?_
        refine lv_goto (tgt := 116) hx hb dX3_same_60 (by decide) ?_
        exact W.zret (v := nI 0) hx hb hr rfl (fun t9 ht9 _ => ⟨_, rfl, (bI_i0 (by have k0 : k = 0 := (nI_eq (by omega) (by decide)).mp c_18; subst k0; rw [sameM, if_pos rfl]; simp [c_35, c_52])), ht9⟩) (fun _ h => by cases h) dX3_same_116
      · refine lv_iconst (v := nI 1) hx hb dX3_same_55 (by decide) ?_
        refine lv_goto (tgt := 116) hx hb dX3_same_56 (by decide) ?_
        exact W.zret (v := nI 1) hx hb hr rfl (fun t9 ht9 _ => ⟨_, rfl, (bI_i1 (by have k0 : k = 0 := (nI_eq (by omega) (by decide)).mp c_18; subst k0; rw [sameM, if_pos rfl]; simp [c_35, c_52])), ht9⟩) (fun _ h => by cases h) dX3_same_116

set_option maxHeartbeats 4000000 in
set_option maxRecDepth 100000 in
theorem k_X3_copyValue (l : Launch) (G : GT) (S : SS) (sz : Nat) {f t n : Nat} (hf : f < 43) (ht : t < 43) (hn : n < 16) {k : Nat} (hk : k < 3) : Met l yX3_copyValue wsX3_copyValue ({ frames := 0, cells := 0, slots := 0, locals := 0 } : Room) (va_Pc [.ref (gA G 0), .int (nI f), .int (nI t), .int (nI n), .int (nI k)] (fun U => U.heap.size = sz ∧ mP G S U)) (va_Qv (fun S' => S' = cvM S f t n k) (mB G) (gF G sz)) 0 0 (gF G sz) := by
  refine Met.ofW (cc := cX3_copyValue) (maxL := 7) (ret := none) (by decide) rfl ?_
  intro p e s m args below meth c s₁ B hml hv
  obtain ⟨rfl, hsz, hW, hK⟩ := hv
  subst hsz
  have hx := B.exec
  have hb := B.bytes
  have hr := B.returns
  have hts := atoms_spec (ws := wsX3_copyValue) B.pre
  have hown : s.vm.findClass RX3 = some m.cls := findClass_of_methodNamed B.named
  have hlocks := B.notSynchronized
  have hS : va_S (gF G s.heap.size) s.heap s.heap [] := va_S.rf
  have inX3 : ∀ w ∈ u_ws RX3 TX3 22, w ∈ wsX3_copyValue := by decide +kernel
  have hl := lv_entry ([.ref (gA G 0), .int (nI f), .int (nI t), .int (nI n), .int (nI k)]) (n := 7) (Nat.le_of_ble_eq_true rfl)
  rw [lg_entry_eq]
  generalize (lg_sl ([.ref (gA G 0), .int (nI f), .int (nI t), .int (nI n), .int (nI k)]) ++ List.replicate (7 - (lg_sl ([.ref (gA G 0), .int (nI f), .int (nI t), .int (nI n), .int (nI k)])).length) Slot.unset).toArray = ls at hl ⊢
  have hl : lv_has ls 7 [(0, .ref (gA G 0)), (1, .int (nI f)), (2, .int (nI t)), (3, .int (nI n)), (4, .int (nI k))] := hl
  refine lv_bipush (v := nI 16) hx hb dX3_copyValue_0 (by decide) ?_
  refine lv_iload_n hx hb dX3_copyValue_2 rfl (lv_at hl 1 rfl) ?_
  refine nv_imul hx hb dX3_copyValue_3 ?_
  refine lv_iload_n hx hb dX3_copyValue_4 rfl (lv_at hl 3 rfl) ?_
  refine nv_iadd hx hb dX3_copyValue_5 ?_
  refine lv_istore (lv' := [(5, .int (nI ((16 * f) + n))), (0, .ref (gA G 0)), (1, .int (nI f)), (2, .int (nI t)), (3, .int (nI n)), (4, .int (nI k))]) hx hb dX3_copyValue_6 hl (by decide) rfl (fun ls hl => ?_)
  refine lv_bipush (v := nI 16) hx hb dX3_copyValue_8 (by decide) ?_
  refine lv_iload_n hx hb dX3_copyValue_10 rfl (lv_at hl 3 rfl) ?_
  refine nv_imul hx hb dX3_copyValue_11 ?_
  refine lv_iload_n hx hb dX3_copyValue_12 rfl (lv_at hl 4 rfl) ?_
  refine nv_iadd hx hb dX3_copyValue_13 ?_
  refine lv_istore (lv' := [(6, .int (nI ((16 * t) + n))), (5, .int (nI ((16 * f) + n))), (0, .ref (gA G 0)), (1, .int (nI f)), (2, .int (nI t)), (3, .int (nI n)), (4, .int (nI k))]) hx hb dX3_copyValue_14 hl (by decide) rfl (fun ls hl => ?_)
  refine lv_iload hx hb dX3_copyValue_16 (lv_at hl 6 rfl) ?_
  refine lv_if_ne (tgt := 52) hx hb dX3_copyValue_18 (by decide) (fun c_18 => ?_) (fun c_18 => ?_)
  · refine lv_iload hx hb dX3_copyValue_52 (lv_at hl 6 rfl) ?_
    refine lv_iconst (v := nI 1) hx hb dX3_copyValue_54 (by decide) ?_
    refine nv_icmp_ne (tgt := 75) hx hb (by omega) (by omega) dX3_copyValue_55 (by decide) (fun c_55 => ?_) (fun c_55 => ?_)
    · refine lv_aload_n hx hb dX3_copyValue_75 rfl (lv_at hl 2 rfl) ?_
      refine va_get (D := gD G) (ci := 3) (v := .ref (gA G 8)) (C := RX3) (T := TX3) (N := 22) hx hb hts inX3 hown hK.1 hW 0 mw_0 rfl 10 (by decide) (hts (.fieldLink RX3 40 "MarkedTreesModel" "attribute" "[I") (by decide +kernel)) (fun _ h9 => h9) rfl dX3_copyValue_76 ?_
      refine lv_iload hx hb dX3_copyValue_79 (lv_at hl 0 rfl) ?_
      refine lv_aload_n hx hb dX3_copyValue_81 rfl (lv_at hl 2 rfl) ?_
      refine va_get (D := gD G) (ci := 3) (v := .ref (gA G 8)) (C := RX3) (T := TX3) (N := 22) hx hb hts inX3 hown hK.1 hW 0 mw_0 rfl 10 (by decide) (hts (.fieldLink RX3 40 "MarkedTreesModel" "attribute" "[I") (by decide +kernel)) (fun _ h9 => h9) rfl dX3_copyValue_82 ?_
      refine lv_iload hx hb dX3_copyValue_85 (lv_at hl 1 rfl) ?_
      refine nv_iald hx hb hK.1 hW 8 0 mw_8 rfl (i := (16 * f) + n) (by omega) (by decide) dX3_copyValue_87 ?_
      refine nv_iast hx hb hK.1 hW (wl_D hK.2.1) hS 8 0 mw_8 rfl (i := (16 * t) + n) (by omega) (by decide) dX3_copyValue_88 (fun H locs hW hS => ?_)
      have hW : mW G (s1 S 8 ((16 * t) + n) (S.1 8 ((16 * f) + n))) H := mp_8 hW
      obtain ⟨S_1, eS_1⟩ : ∃ z, z = s1 S 8 ((16 * t) + n) (S.1 8 ((16 * f) + n)) := ⟨_, rfl⟩
      rw [← eS_1] at hW
      exact W.vret hx hb hr (fun t9 ht9 _ => ⟨⟨S_1, rfl, (by rw [cvM, if_neg (fun z => c_18 (by rw [z]; rfl)), if_neg (by omega)]; subst_vars; rfl), (show mW G S_1 t9.heap by rw [ht9]; exact hW)⟩, hS.F ht9⟩) hS.2.2 dX3_copyValue_89
    · refine lv_aload_n hx hb dX3_copyValue_58 rfl (lv_at hl 2 rfl) ?_
      refine va_get (D := gD G) (ci := 3) (v := .ref (gA G 7)) (C := RX3) (T := TX3) (N := 22) hx hb hts inX3 hown hK.1 hW 0 mw_0 rfl 9 (by decide) (hts (.fieldLink RX3 37 "MarkedTreesModel" "content" "[I") (by decide +kernel)) (fun _ h9 => h9) rfl dX3_copyValue_59 ?_
      refine lv_iload hx hb dX3_copyValue_62 (lv_at hl 0 rfl) ?_
      refine lv_aload_n hx hb dX3_copyValue_64 rfl (lv_at hl 2 rfl) ?_
      refine va_get (D := gD G) (ci := 3) (v := .ref (gA G 7)) (C := RX3) (T := TX3) (N := 22) hx hb hts inX3 hown hK.1 hW 0 mw_0 rfl 9 (by decide) (hts (.fieldLink RX3 37 "MarkedTreesModel" "content" "[I") (by decide +kernel)) (fun _ h9 => h9) rfl dX3_copyValue_65 ?_
      refine lv_iload hx hb dX3_copyValue_68 (lv_at hl 1 rfl) ?_
      refine nv_iald hx hb hK.1 hW 7 0 mw_7 rfl (i := (16 * f) + n) (by omega) (by decide) dX3_copyValue_70 ?_
      refine nv_iast hx hb hK.1 hW (wl_D hK.2.1) hS 7 0 mw_7 rfl (i := (16 * t) + n) (by omega) (by decide) dX3_copyValue_71 (fun H locs hW hS => ?_)
      have hW : mW G (s1 S 7 ((16 * t) + n) (S.1 7 ((16 * f) + n))) H := mp_7 hW
      obtain ⟨S_2, eS_2⟩ : ∃ z, z = s1 S 7 ((16 * t) + n) (S.1 7 ((16 * f) + n)) := ⟨_, rfl⟩
      rw [← eS_2] at hW
      refine lv_goto (tgt := 89) hx hb dX3_copyValue_72 (by decide) ?_
      exact W.vret hx hb hr (fun t9 ht9 _ => ⟨⟨S_2, rfl, (by have k1 : k = 1 := (by omega); subst k1; rw [cvM, if_neg (by decide), if_pos rfl]; subst_vars; rfl), (show mW G S_2 t9.heap by rw [ht9]; exact hW)⟩, hS.F ht9⟩) hS.2.2 dX3_copyValue_89
  · refine lv_aload_n hx hb dX3_copyValue_21 rfl (lv_at hl 2 rfl) ?_
    refine va_get (D := gD G) (ci := 3) (v := .ref (gA G 5)) (C := RX3) (T := TX3) (N := 22) hx hb hts inX3 hown hK.1 hW 0 mw_0 rfl 7 (by decide) (hts (.fieldLink RX3 31 "MarkedTreesModel" "parent" "[I") (by decide +kernel)) (fun _ h9 => h9) rfl dX3_copyValue_22 ?_
    refine lv_iload hx hb dX3_copyValue_25 (lv_at hl 0 rfl) ?_
    refine lv_aload_n hx hb dX3_copyValue_27 rfl (lv_at hl 2 rfl) ?_
    refine va_get (D := gD G) (ci := 3) (v := .ref (gA G 5)) (C := RX3) (T := TX3) (N := 22) hx hb hts inX3 hown hK.1 hW 0 mw_0 rfl 7 (by decide) (hts (.fieldLink RX3 31 "MarkedTreesModel" "parent" "[I") (by decide +kernel)) (fun _ h9 => h9) rfl dX3_copyValue_28 ?_
    refine lv_iload hx hb dX3_copyValue_31 (lv_at hl 1 rfl) ?_
    refine nv_iald hx hb hK.1 hW 5 0 mw_5 rfl (i := (16 * f) + n) (by omega) (by decide) dX3_copyValue_33 ?_
    refine nv_iast hx hb hK.1 hW (wl_D hK.2.1) hS 5 0 mw_5 rfl (i := (16 * t) + n) (by omega) (by decide) dX3_copyValue_34 (fun H locs hW hS => ?_)
    have hW : mW G (s1 S 5 ((16 * t) + n) (S.1 5 ((16 * f) + n))) H := mp_5 hW
    obtain ⟨S_3, eS_3⟩ : ∃ z, z = s1 S 5 ((16 * t) + n) (S.1 5 ((16 * f) + n)) := ⟨_, rfl⟩
    rw [← eS_3] at hW
    refine lv_aload_n hx hb dX3_copyValue_35 rfl (lv_at hl 2 rfl) ?_
    refine va_get (D := gD G) (ci := 3) (v := .ref (gA G 6)) (C := RX3) (T := TX3) (N := 22) hx hb hts inX3 hown hK.1 hW 0 mw_0 rfl 8 (by decide) (hts (.fieldLink RX3 34 "MarkedTreesModel" "name" "[I") (by decide +kernel)) (fun _ h9 => h9) rfl dX3_copyValue_36 ?_
    refine lv_iload hx hb dX3_copyValue_39 (lv_at hl 0 rfl) ?_
    refine lv_aload_n hx hb dX3_copyValue_41 rfl (lv_at hl 2 rfl) ?_
    refine va_get (D := gD G) (ci := 3) (v := .ref (gA G 6)) (C := RX3) (T := TX3) (N := 22) hx hb hts inX3 hown hK.1 hW 0 mw_0 rfl 8 (by decide) (hts (.fieldLink RX3 34 "MarkedTreesModel" "name" "[I") (by decide +kernel)) (fun _ h9 => h9) rfl dX3_copyValue_42 ?_
    refine lv_iload hx hb dX3_copyValue_45 (lv_at hl 1 rfl) ?_
    refine nv_iald hx hb hK.1 hW 6 0 mw_6 rfl (i := (16 * f) + n) (by omega) (by decide) dX3_copyValue_47 ?_
    refine nv_iast hx hb hK.1 hW (wl_D hK.2.1) hS 6 0 mw_6 rfl (i := (16 * t) + n) (by omega) (by decide) dX3_copyValue_48 (fun H locs hW hS => ?_)
    have hW : mW G (s1 S_3 6 ((16 * t) + n) (S_3.1 6 ((16 * f) + n))) H := mp_6 hW
    obtain ⟨S_4, eS_4⟩ : ∃ z, z = s1 S_3 6 ((16 * t) + n) (S_3.1 6 ((16 * f) + n)) := ⟨_, rfl⟩
    rw [← eS_4] at hW
    refine lv_goto (tgt := 89) hx hb dX3_copyValue_49 (by decide) ?_
    exact W.vret hx hb hr (fun t9 ht9 _ => ⟨⟨S_4, rfl, (by have k0 : k = 0 := (nI_eq (by omega) (by decide)).mp c_18; subst k0; rw [cvM, if_pos rfl]; subst_vars; rfl), (show mW G S_4 t9.heap by rw [ht9]; exact hW)⟩, hS.F ht9⟩) hS.2.2 dX3_copyValue_89
