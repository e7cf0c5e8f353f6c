set_option maxHeartbeats 1000000 in
set_option maxRecDepth 100000 in
theorem k_X0_init (l : Launch) (G : GT) (h0 sz : Nat) : Met l yX0_init wsX0_init ({ frames := 2, cells := 7, slots := 255, locals := 41 } : Room) (va_Pc [.ref h0] (fun U => U.heap.size = sz ∧ va_P (gD G) vwCl [(h0, pF)] U.heap ∧ va_D (fun _ => True) [(h0, pF)] ∧ iK G U)) (va_Qv (fun _ : Nat × Nat × Nat × Nat × Nat × Nat × Nat => True) (fun u t => va_P (gD G) vwCl (pL G h0 u.1 u.2.1 u.2.2.1 u.2.2.2.1 u.2.2.2.2.1 u.2.2.2.2.2.1 u.2.2.2.2.2.2) t.heap ∧ va_D (va_A [(h0, pF)] sz) (pL G h0 u.1 u.2.1 u.2.2.1 u.2.2.2.1 u.2.2.2.2.1 u.2.2.2.2.2.1 u.2.2.2.2.2.2)) (va_A [(h0, pF)] sz)) 7 255 (va_A [(h0, pF)] sz) := by
  refine Met.ofW (cc := cX0_init) (maxL := 1) (ret := none) (by decide) rfl ?_
  intro p e s m args below meth c s₁ B hml hv
  obtain ⟨rfl, hsz, hP, hD0, hI⟩ := hv
  subst hsz
  have hx := B.exec
  have hb := B.bytes
  have hr := B.returns
  have hts := atoms_spec (ws := wsX0_init) B.pre
  have hown : s.vm.findClass RX0 = some m.cls := findClass_of_methodNamed B.named
  have hin : meth.name = "<init>" := (name_of_methodNamed B.named B.method).1
  have hD := hD0.self (sz := s.heap.size)
  generalize hAe : va_A [(h0, pF)] s.heap.size = A at hD ⊢
  have hA : ∀ q : Nat, s.heap.size ≤ q → A q := fun q h => by rw [← hAe]; exact Or.inr h
  have hS : va_S A s.heap s.heap [] := va_S.rf
  have inX0 : ∀ w ∈ u_ws RX0 TX0 10, w ∈ wsX0_init := by decide +kernel
  have inX1 : ∀ w ∈ u_ws RX1 TX1 3, w ∈ wsX0_init := by decide +kernel
  have hl := lv_entry ([.ref h0]) (n := 1) (Nat.le_of_ble_eq_true rfl)
  rw [lg_entry_eq]
  generalize (lg_sl ([.ref h0]) ++ List.replicate (1 - (lg_sl ([.ref h0])).length) Slot.unset).toArray = ls at hl ⊢
  have hl : lv_has ls 1 [(0, .ref h0)] := hl
  refine lv_aload_n hx hb dX0_init_0 rfl (lv_at hl 0 rfl) ?_
  refine W.objInit hx hb hown (hts (.methodLink RX0 3 objectInit) (by decide +kernel)) (hts (.instanceMethod objectInit) (by decide +kernel)) (hts _ (List.mem_cons_of_mem _ (List.mem_append_left _ (List.mem_append_left _ (List.mem_append_left _ (List.mem_of_getElem? (i := 2) rfl)))))) rfl (by rw [hml]; exact hl.1) rfl dX0_init_1 (Nat.le_of_ble_eq_true rfl) (Nat.le_of_ble_eq_true rfl) ?_
  refine W.eq (g2 := F0 m 4 ls []) rfl ?_
  refine lv_aload_n hx hb dX0_init_4 rfl (lv_at hl 0 rfl) ?_
  refine lv_lconst (v := 1) hx hb dX0_init_5 (by decide) ?_
  refine va_put (D := gD G) (ci := 0) (v := .long 1) (ty := tyX0 0) (C := RX0) (T := TX0) (N := 10) hx hb hts inX0 tyX0 tyX0_ok nmX0 hown hI.1 hP hD hS 0 rfl rfl 0 (by decide) (hts (.fieldLink RX0 9 "MarkedTrees$Peer" "held" "J") (by decide +kernel)) (fun _ h9 => h9) rfl (by decide +kernel) rfl rfl (Nat.le_of_ble_eq_true rfl) dX0_init_6 (fun H locs hP hD hS => ?_)
  have hP : va_P (gD G) vwCl ([(h0, .inr (0, [.long 1, .null, .int 0, .null, .int 0, .null, .int 0, .null, .null, .int 0]))]) H := hP
  have hD : va_D A ([(h0, .inr (0, [.long 1, .null, .int 0, .null, .int 0, .null, .int 0, .null, .null, .int 0]))]) := hD
  refine lv_aload_n hx hb dX0_init_9 rfl (lv_at hl 0 rfl) ?_
  refine lv_bipush (v := nI 12) hx hb dX0_init_10 (by decide) ?_
  refine va_newa (atype := .long) (D := gD G) (tys := gT G) (ty := .long) (n := nI 12) (N' := 12) (a0 := (12, .inr (.inl (fun _ => 0)))) hx hb (hts (.arrayClass .long) (by decide +kernel)) rfl hI.1 hP hD hS hA (fun cA => nw_l cA 12) (by decide) (by decide) (by show 12 * 8 ≤ 536870912; omega) (Nat.le_of_ble_eq_true rfl) (Nat.le_of_ble_eq_true rfl) dX0_init_12 (fun a1 cA H hK9 hP hD hS => ?_)
  have e9 : cA = gC G 1 := ia_cls 1 rfl hK9
  subst e9
  have hP : va_P (gD G) vwCl ([(h0, .inr (0, [.long 1, .null, .int 0, .null, .int 0, .null, .int 0, .null, .null, .int 0])), (a1, .inl (gC G 1, 12, .inr (.inl (fun _ => 0))))]) H := hP
  have hD : va_D A ([(h0, .inr (0, [.long 1, .null, .int 0, .null, .int 0, .null, .int 0, .null, .null, .int 0])), (a1, .inl (gC G 1, 12, .inr (.inl (fun _ => 0))))]) := hD
  refine W.widen (k := 1) (n := 12) (by omega) (by omega) ?_
  refine va_putF (D := gD G) (ci := 0) (v := .ref a1) (ty := tyX0 1) (C := RX0) (T := TX0) (N := 10) hx hb hts inX0 tyX0 tyX0_ok nmX0 hown hI.1 hP hD hS 0 rfl rfl 1 (by decide) (hts (.fieldLink RX0 15 "MarkedTrees$Peer" "certificates" "[J") (by decide +kernel)) (fun _ h9 => h9) rfl hin rfl (by decide +kernel) rfl rfl (Nat.le_of_ble_eq_true rfl) dX0_init_14 (fun H locs hP hD hS => ?_)
  have hP : va_P (gD G) vwCl ([(h0, .inr (0, [.long 1, .ref a1, .int 0, .null, .int 0, .null, .int 0, .null, .null, .int 0])), (a1, .inl (gC G 1, 12, .inr (.inl (fun _ => 0))))]) H := hP
  have hD : va_D A ([(h0, .inr (0, [.long 1, .ref a1, .int 0, .null, .int 0, .null, .int 0, .null, .null, .int 0])), (a1, .inl (gC G 1, 12, .inr (.inl (fun _ => 0))))]) := hD
  refine lv_aload_n hx hb dX0_init_17 rfl (lv_at hl 0 rfl) ?_
  refine lv_bipush (v := nI 15) hx hb dX0_init_18 (by decide) ?_
  refine va_put (D := gD G) (ci := 0) (v := .int (nI 15)) (ty := tyX0 2) (C := RX0) (T := TX0) (N := 10) hx hb hts inX0 tyX0 tyX0_ok nmX0 hown hI.1 hP hD hS 0 rfl rfl 2 (by decide) (hts (.fieldLink RX0 19 "MarkedTrees$Peer" "trustedKeys" "I") (by decide +kernel)) (fun _ h9 => h9) rfl (by decide +kernel) rfl rfl (Nat.le_of_ble_eq_true rfl) dX0_init_20 (fun H locs hP hD hS => ?_)
  have hP : va_P (gD G) vwCl ([(h0, .inr (0, [.long 1, .ref a1, .int (nI 15), .null, .int 0, .null, .int 0, .null, .null, .int 0])), (a1, .inl (gC G 1, 12, .inr (.inl (fun _ => 0))))]) H := hP
  have hD : va_D A ([(h0, .inr (0, [.long 1, .ref a1, .int (nI 15), .null, .int 0, .null, .int 0, .null, .null, .int 0])), (a1, .inl (gC G 1, 12, .inr (.inl (fun _ => 0))))]) := hD
  refine lv_aload_n hx hb dX0_init_23 rfl (lv_at hl 0 rfl) ?_
  refine va_new (D := gD G) (ci := 1) (fs := [.int 0, .null, .null]) (C := RX1) (T := TX1) (N := 3) hx hb hts inX1 tyX1 tyX1_ok hown (hts (.classLink RX0 23 RX1) (by decide +kernel)) (hts (.instantiable RX1 3) (by decide +kernel)) (hts (.initialized RX1) (by decide +kernel)) hI.1 hP hD hS hA rfl (fun j hj => by rcases (show j = 0 ∨ j = 1 ∨ j = 2 by omega) with rfl | rfl | rfl <;> rfl) (Nat.le_of_ble_eq_true rfl) (Nat.le_of_ble_eq_true rfl) dX0_init_24 (fun q2 H hP hD hS => ?_)
  have hP : va_P (gD G) vwCl ([(h0, .inr (0, [.long 1, .ref a1, .int (nI 15), .null, .int 0, .null, .int 0, .null, .null, .int 0])), (a1, .inl (gC G 1, 12, .inr (.inl (fun _ => 0)))), (q2, .inr (1, [.int 0, .null, .null]))]) H := hP
  have hD : va_D A ([(h0, .inr (0, [.long 1, .ref a1, .int (nI 15), .null, .int 0, .null, .int 0, .null, .null, .int 0])), (a1, .inl (gC G 1, 12, .inr (.inl (fun _ => 0)))), (q2, .inr (1, [.int 0, .null, .null]))]) := hD
  refine W.widen (k := 2) (n := 15) (by omega) (by omega) ?_
  refine lv_dup hx hb dX0_init_27 rfl ?_
  have hFc := ifree (q := q2) (e := tF) (ws := [(h0, .inr (0, [.long 1, .ref a1, .int (nI 15), .null, .int 0, .null, .int 0, .null, .null, .int 0])), (a1, .inl (gC G 1, 12, .inr (.inl (fun _ => 0))))]) hD hS hA
  refine va_callv (va_runI (As := []) (rest := [.ref q2, .ref h0]) ⟨hx, hb, hml, hown, hts⟩ (k_X1_init l G q2 H.size) (cwI 0 hts gX0_init_X1_init rfl rfl rfl (hts (.initialized RX1) (by decide +kernel)) (hts (.methodLink RX0 25 yX1_init) (by decide +kernel)) (hts (.instanceMethod yX1_init) (by decide +kernel)) rfl (by decide +kernel) ⟨Nat.le_of_ble_eq_true rfl, Nat.le_of_ble_eq_true rfl⟩) ⟨iK_blind, iK_at (ip_last (ws := [(h0, .inr (0, [.long 1, .ref a1, .int (nI 15), .null, .int 0, .null, .int 0, .null, .null, .int 0])), (a1, .inl (gC G 1, 12, .inr (.inl (fun _ => 0))))]) hP) (id_one (q := q2) (e := tF)) hI⟩ rfl rfl hl.1 rfl (lv_room (Nat.le_of_ble_eq_true rfl)) dX0_init_28 ⟨Nat.le_of_ble_eq_true rfl, Nat.le_of_ble_eq_true rfl⟩) hS (fun q _ h => hFc q h) hFc (fun u3 t H1 locs ht hvm h5 hB hz1 hk1 hS => ?_)
  obtain ⟨b4, b5⟩ := u3
  obtain ⟨hP1, hD1⟩ := hB
  rw [ht] at hP1
  obtain ⟨hP, hD⟩ := ijoin (ws := [(h0, .inr (0, [.long 1, .ref a1, .int (nI 15), .null, .int 0, .null, .int 0, .null, .null, .int 0])), (a1, .inl (gC G 1, 12, .inr (.inl (fun _ => 0))))]) hP hD hk1 hFc hP1 hD1
  generalize H1 = H at hP hS ⊢
  have hP : va_P (gD G) vwCl ([(h0, .inr (0, [.long 1, .ref a1, .int (nI 15), .null, .int 0, .null, .int 0, .null, .null, .int 0])), (a1, .inl (gC G 1, 12, .inr (.inl (fun _ => 0)))), (q2, .inr (1, [.int (nI 1), .ref b4, .ref b5])), (b4, .inl (gC G 0, 48, .inl iV)), (b5, .inl (gC G 1, 48, .inr (.inl (fun _ => 0))))]) H := hP
  have hD : va_D A ([(h0, .inr (0, [.long 1, .ref a1, .int (nI 15), .null, .int 0, .null, .int 0, .null, .null, .int 0])), (a1, .inl (gC G 1, 12, .inr (.inl (fun _ => 0)))), (q2, .inr (1, [.int (nI 1), .ref b4, .ref b5])), (b4, .inl (gC G 0, 48, .inl iV)), (b5, .inl (gC G 1, 48, .inr (.inl (fun _ => 0))))]) := hD
  refine W.widen (k := 4) (n := 111) (by omega) (by omega) ?_
  refine va_putF (D := gD G) (ci := 0) (v := .ref q2) (ty := tyX0 3) (C := RX0) (T := TX0) (N := 10) hx hb hts inX0 tyX0 tyX0_ok nmX0 hown hI.1 hP hD hS 0 rfl rfl 3 (by decide) (hts (.fieldLink RX0 26 "MarkedTrees$Peer" "workspace" "LMarkedTrees$Tree;") (by decide +kernel)) (fun _ h9 => h9) rfl hin rfl (by decide +kernel) rfl rfl (Nat.le_of_ble_eq_true rfl) dX0_init_31 (fun H locs hP hD hS => ?_)
  have hP : va_P (gD G) vwCl ([(h0, .inr (0, [.long 1, .ref a1, .int (nI 15), .ref q2, .int 0, .null, .int 0, .null, .null, .int 0])), (a1, .inl (gC G 1, 12, .inr (.inl (fun _ => 0)))), (q2, .inr (1, [.int (nI 1), .ref b4, .ref b5])), (b4, .inl (gC G 0, 48, .inl iV)), (b5, .inl (gC G 1, 48, .inr (.inl (fun _ => 0))))]) H := hP
  have hD : va_D A ([(h0, .inr (0, [.long 1, .ref a1, .int (nI 15), .ref q2, .int 0, .null, .int 0, .null, .null, .int 0])), (a1, .inl (gC G 1, 12, .inr (.inl (fun _ => 0)))), (q2, .inr (1, [.int (nI 1), .ref b4, .ref b5])), (b4, .inl (gC G 0, 48, .inl iV)), (b5, .inl (gC G 1, 48, .inr (.inl (fun _ => 0))))]) := hD
  refine lv_aload_n hx hb dX0_init_34 rfl (lv_at hl 0 rfl) ?_
  refine lv_iconst (v := (-1)) hx hb dX0_init_35 (by decide) ?_
  refine va_put (D := gD G) (ci := 0) (v := .int (-1)) (ty := tyX0 4) (C := RX0) (T := TX0) (N := 10) hx hb hts inX0 tyX0 tyX0_ok nmX0 hown hI.1 hP hD hS 0 rfl rfl 4 (by decide) (hts (.fieldLink RX0 30 "MarkedTrees$Peer" "base" "I") (by decide +kernel)) (fun _ h9 => h9) rfl (by decide +kernel) rfl rfl (Nat.le_of_ble_eq_true rfl) dX0_init_36 (fun H locs hP hD hS => ?_)
  have hP : va_P (gD G) vwCl ([(h0, .inr (0, [.long 1, .ref a1, .int (nI 15), .ref q2, .int (-1), .null, .int 0, .null, .null, .int 0])), (a1, .inl (gC G 1, 12, .inr (.inl (fun _ => 0)))), (q2, .inr (1, [.int (nI 1), .ref b4, .ref b5])), (b4, .inl (gC G 0, 48, .inl iV)), (b5, .inl (gC G 1, 48, .inr (.inl (fun _ => 0))))]) H := hP
  have hD : va_D A ([(h0, .inr (0, [.long 1, .ref a1, .int (nI 15), .ref q2, .int (-1), .null, .int 0, .null, .null, .int 0])), (a1, .inl (gC G 1, 12, .inr (.inl (fun _ => 0)))), (q2, .inr (1, [.int (nI 1), .ref b4, .ref b5])), (b4, .inl (gC G 0, 48, .inl iV)), (b5, .inl (gC G 1, 48, .inr (.inl (fun _ => 0))))]) := hD
  refine lv_aload_n hx hb dX0_init_39 rfl (lv_at hl 0 rfl) ?_
  refine lv_bipush (v := nI 48) hx hb dX0_init_40 (by decide) ?_
  refine va_newa (atype := .int) (D := gD G) (tys := gT G) (ty := .int) (n := nI 48) (N' := 48) (a0 := (48, .inl (fun _ => 0))) hx hb (hts (.arrayClass .int) (by decide +kernel)) rfl hI.1 hP hD hS hA (fun cA => nw_i cA 48) (by decide) (by decide) (by show 48 * 4 ≤ 536870912; omega) (Nat.le_of_ble_eq_true rfl) (Nat.le_of_ble_eq_true rfl) dX0_init_42 (fun a6 cA H hK9 hP hD hS => ?_)
  have e9 : cA = gC G 0 := ia_cls 0 rfl hK9
  subst e9
  have hP : va_P (gD G) vwCl ([(h0, .inr (0, [.long 1, .ref a1, .int (nI 15), .ref q2, .int (-1), .null, .int 0, .null, .null, .int 0])), (a1, .inl (gC G 1, 12, .inr (.inl (fun _ => 0)))), (q2, .inr (1, [.int (nI 1), .ref b4, .ref b5])), (b4, .inl (gC G 0, 48, .inl iV)), (b5, .inl (gC G 1, 48, .inr (.inl (fun _ => 0)))), (a6, .inl (gC G 0, 48, .inl (fun _ => 0)))]) H := hP
  have hD : va_D A ([(h0, .inr (0, [.long 1, .ref a1, .int (nI 15), .ref q2, .int (-1), .null, .int 0, .null, .null, .int 0])), (a1, .inl (gC G 1, 12, .inr (.inl (fun _ => 0)))), (q2, .inr (1, [.int (nI 1), .ref b4, .ref b5])), (b4, .inl (gC G 0, 48, .inl iV)), (b5, .inl (gC G 1, 48, .inr (.inl (fun _ => 0)))), (a6, .inl (gC G 0, 48, .inl (fun _ => 0)))]) := hD
  refine W.widen (k := 5) (n := 159) (by omega) (by omega) ?_
  refine va_putF (D := gD G) (ci := 0) (v := .ref a6) (ty := tyX0 5) (C := RX0) (T := TX0) (N := 10) hx hb hts inX0 tyX0 tyX0_ok nmX0 hown hI.1 hP hD hS 0 rfl rfl 5 (by decide) (hts (.fieldLink RX0 33 "MarkedTrees$Peer" "decisions" "[I") (by decide +kernel)) (fun _ h9 => h9) rfl hin rfl (by decide +kernel) rfl rfl (Nat.le_of_ble_eq_true rfl) dX0_init_44 (fun H locs hP hD hS => ?_)
  have hP : va_P (gD G) vwCl ([(h0, .inr (0, [.long 1, .ref a1, .int (nI 15), .ref q2, .int (-1), .ref a6, .int 0, .null, .null, .int 0])), (a1, .inl (gC G 1, 12, .inr (.inl (fun _ => 0)))), (q2, .inr (1, [.int (nI 1), .ref b4, .ref b5])), (b4, .inl (gC G 0, 48, .inl iV)), (b5, .inl (gC G 1, 48, .inr (.inl (fun _ => 0)))), (a6, .inl (gC G 0, 48, .inl (fun _ => 0)))]) H := hP
  have hD : va_D A ([(h0, .inr (0, [.long 1, .ref a1, .int (nI 15), .ref q2, .int (-1), .ref a6, .int 0, .null, .null, .int 0])), (a1, .inl (gC G 1, 12, .inr (.inl (fun _ => 0)))), (q2, .inr (1, [.int (nI 1), .ref b4, .ref b5])), (b4, .inl (gC G 0, 48, .inl iV)), (b5, .inl (gC G 1, 48, .inr (.inl (fun _ => 0)))), (a6, .inl (gC G 0, 48, .inl (fun _ => 0)))]) := hD
  refine lv_aload_n hx hb dX0_init_47 rfl (lv_at hl 0 rfl) ?_
  refine lv_bipush (v := nI 48) hx hb dX0_init_48 (by decide) ?_
  refine va_newa (atype := .int) (D := gD G) (tys := gT G) (ty := .int) (n := nI 48) (N' := 48) (a0 := (48, .inl (fun _ => 0))) hx hb (hts (.arrayClass .int) (by decide +kernel)) rfl hI.1 hP hD hS hA (fun cA => nw_i cA 48) (by decide) (by decide) (by show 48 * 4 ≤ 536870912; omega) (Nat.le_of_ble_eq_true rfl) (Nat.le_of_ble_eq_true rfl) dX0_init_50 (fun a7 cA H hK9 hP hD hS => ?_)
  have e9 : cA = gC G 0 := ia_cls 0 rfl hK9
  subst e9
  have hP : va_P (gD G) vwCl ([(h0, .inr (0, [.long 1, .ref a1, .int (nI 15), .ref q2, .int (-1), .ref a6, .int 0, .null, .null, .int 0])), (a1, .inl (gC G 1, 12, .inr (.inl (fun _ => 0)))), (q2, .inr (1, [.int (nI 1), .ref b4, .ref b5])), (b4, .inl (gC G 0, 48, .inl iV)), (b5, .inl (gC G 1, 48, .inr (.inl (fun _ => 0)))), (a6, .inl (gC G 0, 48, .inl (fun _ => 0))), (a7, .inl (gC G 0, 48, .inl (fun _ => 0)))]) H := hP
  have hD : va_D A ([(h0, .inr (0, [.long 1, .ref a1, .int (nI 15), .ref q2, .int (-1), .ref a6, .int 0, .null, .null, .int 0])), (a1, .inl (gC G 1, 12, .inr (.inl (fun _ => 0)))), (q2, .inr (1, [.int (nI 1), .ref b4, .ref b5])), (b4, .inl (gC G 0, 48, .inl iV)), (b5, .inl (gC G 1, 48, .inr (.inl (fun _ => 0)))), (a6, .inl (gC G 0, 48, .inl (fun _ => 0))), (a7, .inl (gC G 0, 48, .inl (fun _ => 0)))]) := hD
  refine W.widen (k := 6) (n := 207) (by omega) (by omega) ?_
  refine va_putF (D := gD G) (ci := 0) (v := .ref a7) (ty := tyX0 7) (C := RX0) (T := TX0) (N := 10) hx hb hts inX0 tyX0 tyX0_ok nmX0 hown hI.1 hP hD hS 0 rfl rfl 7 (by decide) (hts (.fieldLink RX0 37 "MarkedTrees$Peer" "listedNodes" "[I") (by decide +kernel)) (fun _ h9 => h9) rfl hin rfl (by decide +kernel) rfl rfl (Nat.le_of_ble_eq_true rfl) dX0_init_52 (fun H locs hP hD hS => ?_)
  have hP : va_P (gD G) vwCl ([(h0, .inr (0, [.long 1, .ref a1, .int (nI 15), .ref q2, .int (-1), .ref a6, .int 0, .ref a7, .null, .int 0])), (a1, .inl (gC G 1, 12, .inr (.inl (fun _ => 0)))), (q2, .inr (1, [.int (nI 1), .ref b4, .ref b5])), (b4, .inl (gC G 0, 48, .inl iV)), (b5, .inl (gC G 1, 48, .inr (.inl (fun _ => 0)))), (a6, .inl (gC G 0, 48, .inl (fun _ => 0))), (a7, .inl (gC G 0, 48, .inl (fun _ => 0)))]) H := hP
  have hD : va_D A ([(h0, .inr (0, [.long 1, .ref a1, .int (nI 15), .ref q2, .int (-1), .ref a6, .int 0, .ref a7, .null, .int 0])), (a1, .inl (gC G 1, 12, .inr (.inl (fun _ => 0)))), (q2, .inr (1, [.int (nI 1), .ref b4, .ref b5])), (b4, .inl (gC G 0, 48, .inl iV)), (b5, .inl (gC G 1, 48, .inr (.inl (fun _ => 0)))), (a6, .inl (gC G 0, 48, .inl (fun _ => 0))), (a7, .inl (gC G 0, 48, .inl (fun _ => 0)))]) := hD
  refine lv_aload_n hx hb dX0_init_55 rfl (lv_at hl 0 rfl) ?_
  refine lv_bipush (v := nI 48) hx hb dX0_init_56 (by decide) ?_
  refine va_newa (atype := .int) (D := gD G) (tys := gT G) (ty := .int) (n := nI 48) (N' := 48) (a0 := (48, .inl (fun _ => 0))) hx hb (hts (.arrayClass .int) (by decide +kernel)) rfl hI.1 hP hD hS hA (fun cA => nw_i cA 48) (by decide) (by decide) (by show 48 * 4 ≤ 536870912; omega) (Nat.le_of_ble_eq_true rfl) (Nat.le_of_ble_eq_true rfl) dX0_init_58 (fun a8 cA H hK9 hP hD hS => ?_)
  have e9 : cA = gC G 0 := ia_cls 0 rfl hK9
  subst e9
  have hP : va_P (gD G) vwCl ([(h0, .inr (0, [.long 1, .ref a1, .int (nI 15), .ref q2, .int (-1), .ref a6, .int 0, .ref a7, .null, .int 0])), (a1, .inl (gC G 1, 12, .inr (.inl (fun _ => 0)))), (q2, .inr (1, [.int (nI 1), .ref b4, .ref b5])), (b4, .inl (gC G 0, 48, .inl iV)), (b5, .inl (gC G 1, 48, .inr (.inl (fun _ => 0)))), (a6, .inl (gC G 0, 48, .inl (fun _ => 0))), (a7, .inl (gC G 0, 48, .inl (fun _ => 0))), (a8, .inl (gC G 0, 48, .inl (fun _ => 0)))]) H := hP
  have hD : va_D A ([(h0, .inr (0, [.long 1, .ref a1, .int (nI 15), .ref q2, .int (-1), .ref a6, .int 0, .ref a7, .null, .int 0])), (a1, .inl (gC G 1, 12, .inr (.inl (fun _ => 0)))), (q2, .inr (1, [.int (nI 1), .ref b4, .ref b5])), (b4, .inl (gC G 0, 48, .inl iV)), (b5, .inl (gC G 1, 48, .inr (.inl (fun _ => 0)))), (a6, .inl (gC G 0, 48, .inl (fun _ => 0))), (a7, .inl (gC G 0, 48, .inl (fun _ => 0))), (a8, .inl (gC G 0, 48, .inl (fun _ => 0)))]) := hD
  refine W.widen (k := 7) (n := 255) (by omega) (by omega) ?_
  refine va_putF (D := gD G) (ci := 0) (v := .ref a8) (ty := tyX0 8) (C := RX0) (T := TX0) (N := 10) hx hb hts inX0 tyX0 tyX0_ok nmX0 hown hI.1 hP hD hS 0 rfl rfl 8 (by decide) (hts (.fieldLink RX0 40 "MarkedTrees$Peer" "listedKinds" "[I") (by decide +kernel)) (fun _ h9 => h9) rfl hin rfl (by decide +kernel) rfl rfl (Nat.le_of_ble_eq_true rfl) dX0_init_60 (fun H locs hP hD hS => ?_)
  have hP : va_P (gD G) vwCl ([(h0, .inr (0, [.long 1, .ref a1, .int (nI 15), .ref q2, .int (-1), .ref a6, .int 0, .ref a7, .ref a8, .int 0])), (a1, .inl (gC G 1, 12, .inr (.inl (fun _ => 0)))), (q2, .inr (1, [.int (nI 1), .ref b4, .ref b5])), (b4, .inl (gC G 0, 48, .inl iV)), (b5, .inl (gC G 1, 48, .inr (.inl (fun _ => 0)))), (a6, .inl (gC G 0, 48, .inl (fun _ => 0))), (a7, .inl (gC G 0, 48, .inl (fun _ => 0))), (a8, .inl (gC G 0, 48, .inl (fun _ => 0)))]) H := hP
  have hD : va_D A ([(h0, .inr (0, [.long 1, .ref a1, .int (nI 15), .ref q2, .int (-1), .ref a6, .int 0, .ref a7, .ref a8, .int 0])), (a1, .inl (gC G 1, 12, .inr (.inl (fun _ => 0)))), (q2, .inr (1, [.int (nI 1), .ref b4, .ref b5])), (b4, .inl (gC G 0, 48, .inl iV)), (b5, .inl (gC G 1, 48, .inr (.inl (fun _ => 0)))), (a6, .inl (gC G 0, 48, .inl (fun _ => 0))), (a7, .inl (gC G 0, 48, .inl (fun _ => 0))), (a8, .inl (gC G 0, 48, .inl (fun _ => 0)))]) := hD
  refine lv_aload_n hx hb dX0_init_63 rfl (lv_at hl 0 rfl) ?_
  refine va_get (D := gD G) (ci := 0) (v := .ref a6) (C := RX0) (T := TX0) (N := 10) hx hb hts inX0 hown hI.1 hP 0 rfl rfl 5 (by decide) (hts (.fieldLink RX0 33 "MarkedTrees$Peer" "decisions" "[I") (by decide +kernel)) (fun _ h9 => h9) rfl dX0_init_64 ?_
  refine lv_iconst (v := (-1)) hx hb dX0_init_67 (by decide) ?_
  have hPc := hP.sub (ws' := fL G a6 (fun _ => 0)) [5] rfl
  have hFc := va_free (wc := fL G a6 (fun _ => 0)) hD hS hA [5] rfl
  refine va_callv (va_runS (As := [.ref a6, .int (-1)]) (rest := []) ⟨hx, hb, hml, hown, hts⟩ (k_fillN l G a6 H.size (fun _ => 0) (-1)) (va_cwS 2 hts gX0_init_J7_fill_53178 rfl rfl rfl (by decide +kernel) ⟨Nat.le_of_ble_eq_true rfl, Nat.le_of_ble_eq_true rfl⟩) ⟨iK_blind, iK_at hPc id_one hI⟩ rfl rfl hl.1 rfl (lv_room (Nat.le_of_ble_eq_true rfl)) dX0_init_68 ⟨Nat.le_of_ble_eq_true rfl, Nat.le_of_ble_eq_true rfl⟩) hS (fun q _ h => hFc q h) hFc (fun u t H1 locs ht hvm h5 hB hz1 hk1 hS => ?_)
  obtain ⟨hP1, hD1⟩ := hB
  rw [ht] at hP1
  obtain ⟨hP, hD⟩ := va_join (wr := [(h0, .inr (0, [.long 1, .ref a1, .int (nI 15), .ref q2, .int (-1), .ref a6, .int 0, .ref a7, .ref a8, .int 0])), (a1, .inl (gC G 1, 12, .inr (.inl (fun _ => 0)))), (q2, .inr (1, [.int (nI 1), .ref b4, .ref b5])), (b4, .inl (gC G 0, 48, .inl iV)), (b5, .inl (gC G 1, 48, .inr (.inl (fun _ => 0)))), (a7, .inl (gC G 0, 48, .inl (fun _ => 0))), (a8, .inl (gC G 0, 48, .inl (fun _ => 0)))]) (wc := fL G a6 (fun _ => 0)) (w1 := fL G a6 (fiF (-1) 48 0 (fun _ => 0))) hP hD [5] [0, 1, 2, 3, 4, 6, 7] rfl rfl (by decide) (by decide) hk1 hFc hP1 hD1
  exact W.vret hx hb hr (fun t9 ht9 _ => ⟨⟨(a1, q2, b4, b5, a7, a8, a6), rfl, trivial, by rw [ht9]; exact hP, hD⟩, hS.F ht9⟩) hS.2.2 dX0_init_71
