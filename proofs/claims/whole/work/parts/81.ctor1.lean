set_option maxHeartbeats 1000000 in
set_option maxRecDepth 100000 in
theorem k_X1_init (l : Launch) (G : GT) (h0 sz : Nat) : Met l yX1_init wsX1_init ({ frames := 1, cells := 2, slots := 96, locals := 21 } : Room) (va_Pc [.ref h0] (fun U => U.heap.size = sz ∧ va_P (gD G) vwCl [(h0, tF)] U.heap ∧ va_D (fun _ => True) [(h0, tF)] ∧ iK G U)) (va_Qv (fun _ : Nat × Nat => True) (fun u t => va_P (gD G) vwCl (tL G h0 u.1 u.2) t.heap ∧ va_D (va_A [(h0, tF)] sz) (tL G h0 u.1 u.2)) (va_A [(h0, tF)] sz)) 2 96 (va_A [(h0, tF)] sz) := by
  refine Met.ofW (cc := cX1_init) (maxL := 1) (ret := none) (by decide) rfl ?_
  intro p e s m args below meth c s₁ B hml hv
  obtain ⟨rfl, hsz, hP, hD0, hI⟩ := hv
  subst hsz
  have hx := B.exec
  have hb := B.bytes
  have hr := B.returns
  have hts := atoms_spec (ws := wsX1_init) B.pre
  have hown : s.vm.findClass RX1 = some m.cls := findClass_of_methodNamed B.named
  have hin : meth.name = "<init>" := (name_of_methodNamed B.named B.method).1
  have hD := hD0.self (sz := s.heap.size)
  generalize hAe : va_A [(h0, tF)] s.heap.size = A at hD ⊢
  have hA : ∀ q : Nat, s.heap.size ≤ q → A q := fun q h => by rw [← hAe]; exact Or.inr h
  have hS : va_S A s.heap s.heap [] := va_S.rf
  have inX1 : ∀ w ∈ u_ws RX1 TX1 3, w ∈ wsX1_init := by decide +kernel
  have hl := lv_entry ([.ref h0]) (n := 1) (Nat.le_of_ble_eq_true rfl)
  rw [lg_entry_eq]
  generalize (lg_sl ([.ref h0]) ++ List.replicate (1 - (lg_sl ([.ref h0])).length) Slot.unset).toArray = ls at hl ⊢
  have hl : lv_has ls 1 [(0, .ref h0)] := hl
  refine lv_aload_n hx hb dX1_init_0 rfl (lv_at hl 0 rfl) ?_
  refine W.objInit hx hb hown (hts (.methodLink RX1 3 objectInit) (by decide +kernel)) (hts (.instanceMethod objectInit) (by decide +kernel)) (hts _ (List.mem_cons_of_mem _ (List.mem_append_left _ (List.mem_of_getElem? (i := 2) rfl)))) rfl (by rw [hml]; exact hl.1) rfl dX1_init_1 (Nat.le_of_ble_eq_true rfl) (Nat.le_of_ble_eq_true rfl) ?_
  refine W.eq (g2 := F0 m 4 ls []) rfl ?_
  refine lv_aload_n hx hb dX1_init_4 rfl (lv_at hl 0 rfl) ?_
  refine lv_iconst (v := nI 1) hx hb dX1_init_5 (by decide) ?_
  refine va_put (D := gD G) (ci := 1) (v := .int (nI 1)) (ty := tyX1 0) (C := RX1) (T := TX1) (N := 3) hx hb hts inX1 tyX1 tyX1_ok nmX1 hown hI.1 hP hD hS 0 rfl rfl 0 (by decide) (hts (.fieldLink RX1 9 "MarkedTrees$Tree" "alive" "I") (by decide +kernel)) (fun _ h9 => h9) rfl (by decide +kernel) rfl rfl (Nat.le_of_ble_eq_true rfl) dX1_init_6 (fun H locs hP hD hS => ?_)
  have hP : va_P (gD G) vwCl ([(h0, .inr (1, [.int (nI 1), .null, .null]))]) H := hP
  have hD : va_D A ([(h0, .inr (1, [.int (nI 1), .null, .null]))]) := hD
  refine lv_aload_n hx hb dX1_init_9 rfl (lv_at hl 0 rfl) ?_
  refine lv_bipush (v := nI 48) hx hb dX1_init_10 (by decide) ?_
  refine va_newa (atype := .int) (D := gD G) (tys := gT G) (ty := .int) (n := nI 48) (N' := 48) (a0 := (48, .inl (fun _ => 0))) hx hb (hts (.arrayClass .int) (by decide +kernel)) rfl hI.1 hP hD hS hA (fun cA => nw_i cA 48) (by decide) (by decide) (by show 48 * 4 ≤ 536870912; omega) (Nat.le_of_ble_eq_true rfl) (Nat.le_of_ble_eq_true rfl) dX1_init_12 (fun a1 cA H hK9 hP hD hS => ?_)
  have e9 : cA = gC G 0 := ia_cls 0 rfl hK9
  subst e9
  have hP : va_P (gD G) vwCl ([(h0, .inr (1, [.int (nI 1), .null, .null])), (a1, .inl (gC G 0, 48, .inl (fun _ => 0)))]) H := hP
  have hD : va_D A ([(h0, .inr (1, [.int (nI 1), .null, .null])), (a1, .inl (gC G 0, 48, .inl (fun _ => 0)))]) := hD
  refine W.widen (k := 1) (n := 48) (by omega) (by omega) ?_
  refine va_putF (D := gD G) (ci := 1) (v := .ref a1) (ty := tyX1 1) (C := RX1) (T := TX1) (N := 3) hx hb hts inX1 tyX1 tyX1_ok nmX1 hown hI.1 hP hD hS 0 rfl rfl 1 (by decide) (hts (.fieldLink RX1 15 "MarkedTrees$Tree" "values" "[I") (by decide +kernel)) (fun _ h9 => h9) rfl hin rfl (by decide +kernel) rfl rfl (Nat.le_of_ble_eq_true rfl) dX1_init_14 (fun H locs hP hD hS => ?_)
  have hP : va_P (gD G) vwCl ([(h0, .inr (1, [.int (nI 1), .ref a1, .null])), (a1, .inl (gC G 0, 48, .inl (fun _ => 0)))]) H := hP
  have hD : va_D A ([(h0, .inr (1, [.int (nI 1), .ref a1, .null])), (a1, .inl (gC G 0, 48, .inl (fun _ => 0)))]) := hD
  refine lv_aload_n hx hb dX1_init_17 rfl (lv_at hl 0 rfl) ?_
  refine lv_bipush (v := nI 48) hx hb dX1_init_18 (by decide) ?_
  refine va_newa (atype := .long) (D := gD G) (tys := gT G) (ty := .long) (n := nI 48) (N' := 48) (a0 := (48, .inr (.inl (fun _ => 0)))) hx hb (hts (.arrayClass .long) (by decide +kernel)) rfl hI.1 hP hD hS hA (fun cA => nw_l cA 48) (by decide) (by decide) (by show 48 * 8 ≤ 536870912; omega) (Nat.le_of_ble_eq_true rfl) (Nat.le_of_ble_eq_true rfl) dX1_init_20 (fun a2 cA H hK9 hP hD hS => ?_)
  have e9 : cA = gC G 1 := ia_cls 1 rfl hK9
  subst e9
  have hP : va_P (gD G) vwCl ([(h0, .inr (1, [.int (nI 1), .ref a1, .null])), (a1, .inl (gC G 0, 48, .inl (fun _ => 0))), (a2, .inl (gC G 1, 48, .inr (.inl (fun _ => 0))))]) H := hP
  have hD : va_D A ([(h0, .inr (1, [.int (nI 1), .ref a1, .null])), (a1, .inl (gC G 0, 48, .inl (fun _ => 0))), (a2, .inl (gC G 1, 48, .inr (.inl (fun _ => 0))))]) := hD
  refine W.widen (k := 2) (n := 96) (by omega) (by omega) ?_
  refine va_putF (D := gD G) (ci := 1) (v := .ref a2) (ty := tyX1 2) (C := RX1) (T := TX1) (N := 3) hx hb hts inX1 tyX1 tyX1_ok nmX1 hown hI.1 hP hD hS 0 rfl rfl 2 (by decide) (hts (.fieldLink RX1 19 "MarkedTrees$Tree" "marksOfValues" "[J") (by decide +kernel)) (fun _ h9 => h9) rfl hin rfl (by decide +kernel) rfl rfl (Nat.le_of_ble_eq_true rfl) dX1_init_22 (fun H locs hP hD hS => ?_)
  have hP : va_P (gD G) vwCl ([(h0, .inr (1, [.int (nI 1), .ref a1, .ref a2])), (a1, .inl (gC G 0, 48, .inl (fun _ => 0))), (a2, .inl (gC G 1, 48, .inr (.inl (fun _ => 0))))]) H := hP
  have hD : va_D A ([(h0, .inr (1, [.int (nI 1), .ref a1, .ref a2])), (a1, .inl (gC G 0, 48, .inl (fun _ => 0))), (a2, .inl (gC G 1, 48, .inr (.inl (fun _ => 0))))]) := hD
  refine lv_aload_n hx hb dX1_init_25 rfl (lv_at hl 0 rfl) ?_
  refine va_get (D := gD G) (ci := 1) (v := .ref a1) (C := RX1) (T := TX1) (N := 3) hx hb hts inX1 hown hI.1 hP 0 rfl rfl 1 (by decide) (hts (.fieldLink RX1 15 "MarkedTrees$Tree" "values" "[I") (by decide +kernel)) (fun _ h9 => h9) rfl dX1_init_26 ?_
  refine lv_iconst (v := nI 0) hx hb dX1_init_29 (by decide) ?_
  refine lv_iconst (v := nI 0) hx hb dX1_init_30 (by decide) ?_
  refine pv_i (va_runSN (As := [.int (nI 0), .int (nI 0)]) (rest := [.ref a1]) ⟨hx, hb, hml, hown, hts⟩ (k_X2_slot l 0 0) ⟨va_cnB 2 hts ggX1_init_X2_slot rfl rfl rfl hI.2.1 (hts (.initialized RX2) (by decide +kernel)) (by decide +kernel) ⟨Nat.le_of_ble_eq_true rfl, Nat.le_of_ble_eq_true rfl⟩, (hts (.static yX2_slot) (by decide +kernel)), trivial⟩ ⟨(fun _ _ _ _ h => h), fun U _ _ => ⟨rfl, trivial⟩⟩ rfl rfl hl.1 rfl (lv_room (Nat.le_of_ble_eq_true rfl)) dX1_init_31 ⟨Nat.le_of_ble_eq_true rfl, Nat.le_of_ble_eq_true rfl⟩) (fun r1 hr1 => ?_)
  have hr1 : r1 = nI 0 := hr1
  subst hr1
  refine lv_iconst (v := (-1)) hx hb dX1_init_34 (by decide) ?_
  refine nv_iast hx hb hI.1 hP hD hS 1 0 rfl rfl (i := 0) (by decide) (by decide) dX1_init_35 (fun H locs hP hS => ?_)
  have hP : va_P (gD G) vwCl (tL G h0 a1 a2) H := hP
  have hD : va_D A (tL G h0 a1 a2) := hD.set (p := 1) (a := a1) rfl
  exact W.vret hx hb hr (fun t9 ht9 _ => ⟨⟨(a1, a2), rfl, trivial, by rw [ht9]; exact hP, hD⟩, hS.F ht9⟩) hS.2.2 dX1_init_36
