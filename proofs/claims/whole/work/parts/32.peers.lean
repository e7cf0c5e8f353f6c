set_option maxHeartbeats 4000000 in
set_option maxRecDepth 100000 in
theorem k_X0_trusts (l : Launch) (G : GT) (S : SS) {i : Nat} (hi : i < 2) {k : Nat} (hk : k < 4) : Met l yX0_trusts wsX0_trusts ({ frames := 1, cells := 0, slots := 0, locals := 22 } : Room) (va_Pc [.ref (gA G (129 + 5 * i)), .int (nI k)] (cP G S)) (vp_Si (fun r => r = bI (ti (S.1 (129 + 5 * i) 2) k))) 0 0 (fun _ => False) := by
  refine Met.ofW (cc := cX0_trusts) (maxL := 2) (ret := (some .boolean)) (by decide) rfl ?_
  intro p e s m args below meth c s₁ B hml hv
  obtain ⟨rfl, hW, hK⟩ := hv
  have hx := B.exec
  have hb := B.bytes
  have hr := B.returns
  have hts := atoms_spec (ws := wsX0_trusts) B.pre
  have hown : s.vm.findClass RX0 = some m.cls := findClass_of_methodNamed B.named
  have hlocks := B.notSynchronized
  have hS : va_S (gF G s.heap.size) s.heap s.heap [] := va_S.rf
  have inX0 : ∀ w ∈ u_ws RX0 TX0 10, w ∈ wsX0_trusts := by decide +kernel
  have hl := lv_entry ([.ref (gA G (129 + 5 * i)), .int (nI k)]) (n := 2) (Nat.le_of_ble_eq_true rfl)
  rw [lg_entry_eq]
  generalize (lg_sl ([.ref (gA G (129 + 5 * i)), .int (nI k)]) ++ List.replicate (2 - (lg_sl ([.ref (gA G (129 + 5 * i)), .int (nI k)])).length) Slot.unset).toArray = ls at hl ⊢
  have hl : lv_has ls 2 [(0, .ref (gA G (129 + 5 * i))), (1, .int (nI k))] := hl
  refine lv_aload_n hx hb dX0_trusts_0 rfl (lv_at hl 0 rfl) ?_
  refine va_get (D := gD G) (ci := 0) (v := .int (S.1 (129 + 5 * i) 2)) (C := RX0) (T := TX0) (N := 10) hx hb hts inX0 hown hK.1 hW (129 + 5 * i) (cw_P (i := i) (by omega)) rfl 2 (by decide) (hts (.fieldLink RX0 19 "MarkedTrees$Peer" "trustedKeys" "I") (by decide +kernel)) (fun _ h9 => h9) rfl dX0_trusts_1 ?_
  refine lv_i2l (v := (S.1 (129 + 5 * i) 2).toInt64) hx hb dX0_trusts_4 rfl ?_
  refine lv_iload_n hx hb dX0_trusts_5 rfl (lv_at hl 1 rfl) ?_
  refine pv_i (va_runSN (As := [.long ((S.1 (129 + 5 * i) 2).toInt64), .int (nI k)]) (rest := []) ⟨hx, hb, hml, hown, hts⟩ (k_X2_isIn l ((S.1 (129 + 5 * i) 2).toInt64) (k := k) (by omega)) ⟨va_cnB 2 hts ggX0_trusts_X2_isIn rfl rfl rfl hK.2.2.2.1.2.2.1 (hts (.initialized RX2) (by decide +kernel)) (by decide +kernel) ⟨Nat.le_of_ble_eq_true rfl, Nat.le_of_ble_eq_true rfl⟩, (hts (.static yX2_isIn) (by decide +kernel)), trivial⟩ ⟨(fun _ _ _ _ h => h), fun U _ _ => ⟨rfl, trivial⟩⟩ rfl rfl hl.1 rfl (lv_room (Nat.le_of_ble_eq_true rfl)) dX0_trusts_6 ⟨Nat.le_of_ble_eq_true rfl, Nat.le_of_ble_eq_true rfl⟩) (fun r_1 hr_1 => ?_)
  have hr_1 : r_1 = bI (tb ((S.1 (129 + 5 * i) 2).toInt64) k) := hr_1
  subst hr_1
  exact W.zret (v := bI (tb ((S.1 (129 + 5 * i) 2).toInt64) k)) hx hb hr (bI_nar _) (fun t9 ht9 _ => ⟨_, rfl, (by rw [ti_l _ (by omega)]), ht9⟩) (fun _ h => by cases h) dX0_trusts_9

set_option maxHeartbeats 4000000 in
set_option maxRecDepth 100000 in
theorem k_X0_membersOf (l : Launch) (G : GT) (S : SS) {i : Nat} (hi : i < 2) {b : Nat} (hb3 : b < 3) : Met l yX0_membersOf wsX0_membersOf ({ frames := 2, cells := 0, slots := 0, locals := 43 } : Room) (va_Pc [.ref (gA G (129 + 5 * i)), .int (nI b)] (cP G S)) (vp_Sl (fun r => r = memG S i b 4 0 0)) 0 0 (fun _ => False) := by
  refine Met.ofW (cc := cX0_membersOf) (maxL := 5) (ret := (some .long)) (by decide) rfl ?_
  intro p e s m args below meth c s₁ B hml hv
  obtain ⟨rfl, hW, hK⟩ := hv
  have hx := B.exec
  have hb := B.bytes
  have hr := B.returns
  have hts := atoms_spec (ws := wsX0_membersOf) B.pre
  have hown : s.vm.findClass RX0 = some m.cls := findClass_of_methodNamed B.named
  have hlocks := B.notSynchronized
  have hS : va_S (gF G s.heap.size) s.heap s.heap [] := va_S.rf
  have inX0 : ∀ w ∈ u_ws RX0 TX0 10, w ∈ wsX0_membersOf := by decide +kernel
  have hl := lv_entry ([.ref (gA G (129 + 5 * i)), .int (nI b)]) (n := 5) (Nat.le_of_ble_eq_true rfl)
  rw [lg_entry_eq]
  generalize (lg_sl ([.ref (gA G (129 + 5 * i)), .int (nI b)]) ++ List.replicate (5 - (lg_sl ([.ref (gA G (129 + 5 * i)), .int (nI b)])).length) Slot.unset).toArray = ls at hl ⊢
  have hl : lv_has ls 5 [(0, .ref (gA G (129 + 5 * i))), (1, .int (nI b))] := hl
  have LP : ∀ (n : Nat) (k : Nat) (x : Int64), (k + n = 4) → ∀ (ls : Array Slot), lv_has ls 5 [(0, .ref (gA G (129 + 5 * i))), (1, .int (nI b)), (2, .long x), (4, .int (nI k))] → W p l e (headSpec wsX0_membersOf ({ frames := 2, cells := 0, slots := 0, locals := 43 } : Room)).room s m ([.ref (gA G (129 + 5 * i)), .int (nI b)] : List Value).toArray below meth c s.heap [] 0 0 (MQ below (vp_Sl (fun r => r = memG S i b n k x)) ([.ref (gA G (129 + 5 * i)), .int (nI b)] : List Value).toArray s 0 0 (fun _ => False)) (F0 m 5 ls []) := by
    intro n
    induction n with
    | zero =>
      intro k x h2 ls hl
      refine lv_iload hx hb dX0_membersOf_5 (lv_at hl 3 rfl) ?_
      refine lv_iconst (v := nI 4) hx hb dX0_membersOf_7 (by decide) ?_
      refine nv_icmp_ge (tgt := 40) hx hb (by omega) (by omega) dX0_membersOf_8 (by decide) (fun c_8 => ?_) (fun c_8 => ?_)
      · refine lv_lload_n hx hb dX0_membersOf_40 rfl (lv_at hl 2 rfl) ?_
        exact W.lret (v := x) hx hb hr (fun t9 ht9 _ => ⟨_, rfl, rfl, ht9⟩) (fun _ h => by cases h) dX0_membersOf_41
      · exact absurd c_8 (by omega)
    | succ n ih =>
      intro k x h2 ls hl
      refine lv_iload hx hb dX0_membersOf_5 (lv_at hl 3 rfl) ?_
      refine lv_iconst (v := nI 4) hx hb dX0_membersOf_7 (by decide) ?_
      refine nv_icmp_ge (tgt := 40) hx hb (by omega) (by omega) dX0_membersOf_8 (by decide) (fun c_8 => ?_) (fun c_8 => ?_)
      · exact absurd c_8 (by omega)
      · refine lv_aload_n hx hb dX0_membersOf_11 rfl (lv_at hl 0 rfl) ?_
        refine lv_iload hx hb dX0_membersOf_12 (lv_at hl 3 rfl) ?_
        refine pv_i (va_runV (As := [.int (nI k)]) (rest := []) ⟨hx, hb, hml, hown, hts⟩ (k_X0_trusts l G S (i := i) (by omega) (k := k) (by omega)) (cwV 1 hts gX0_membersOf_X0_trusts rfl rfl rfl (by decide +kernel) ⟨Nat.le_of_ble_eq_true rfl, Nat.le_of_ble_eq_true rfl⟩) ⟨cP_blind, c_recv hW hK (k := (129 + 5 * i)) (ci := 0) (cw_P (i := i) (by omega)) rfl, cP_at hW hK hS⟩ rfl rfl hl.1 rfl (lv_room (Nat.le_of_ble_eq_true rfl)) dX0_membersOf_14 ⟨Nat.le_of_ble_eq_true rfl, Nat.le_of_ble_eq_true rfl⟩) (fun r_1 hr_1 => ?_)
        have hr_1 : r_1 = bI (ti (S.1 (129 + 5 * i) 2) k) := hr_1
        subst hr_1
        refine bv_if_eq (b := ti (S.1 (129 + 5 * i) 2) k) (tgt := 34) hx hb dX0_membersOf_17 (by decide) (fun c_17 => ?_) (fun c_17 => ?_)
        · refine lv_iinc (v := nI (k + 1)) (lv' := [(4, .int (nI (k + 1))), (0, .ref (gA G (129 + 5 * i))), (1, .int (nI b)), (2, .long x)]) hx hb dX0_membersOf_34 hl (k := 3) rfl (nI_add k 1) (by decide) rfl (fun ls hl => ?_)
          refine lv_goto (tgt := 5) hx hb dX0_membersOf_37 (by decide) ?_
          have E : memG S i b (n + 1) k x = memG S i b n (k + 1) (x) := by rw [memG]; simp [c_17]
          rw [E]
          exact ih (k + 1) _ (by omega) ls (lv_sub hl [1, 2, 3, 0] rfl)
        · refine lv_lload_n hx hb dX0_membersOf_20 rfl (lv_at hl 2 rfl) ?_
          refine lv_aload_n hx hb dX0_membersOf_21 rfl (lv_at hl 0 rfl) ?_
          refine va_get (D := gD G) (ci := 0) (v := .ref (gA G (130 + 5 * i))) (C := RX0) (T := TX0) (N := 10) hx hb hts inX0 hown hK.1 hW (129 + 5 * i) (cw_P (i := i) (by omega)) rfl 1 (by decide) (hts (.fieldLink RX0 15 "MarkedTrees$Peer" "certificates" "[J") (by decide +kernel)) (fun _ h9 => h9) rfl dX0_membersOf_22 ?_
          refine lv_iload hx hb dX0_membersOf_25 (lv_at hl 3 rfl) ?_
          refine lv_iload_n hx hb dX0_membersOf_27 rfl (lv_at hl 1 rfl) ?_
          refine pv_i (va_runSN (As := [.int (nI k), .int (nI b)]) (rest := [.ref (gA G (130 + 5 * i)), .long x]) ⟨hx, hb, hml, hown, hts⟩ (k_X2_certificateKind l k b) ⟨va_cnB 2 hts ggX0_membersOf_X2_certificateKind rfl rfl rfl hK.2.2.2.1.2.2.2 (hts (.initialized RX2) (by decide +kernel)) (by decide +kernel) ⟨Nat.le_of_ble_eq_true rfl, Nat.le_of_ble_eq_true rfl⟩, (hts (.static yX2_certificateKind) (by decide +kernel)), trivial⟩ ⟨(fun _ _ _ _ h => h), fun U _ _ => ⟨rfl, trivial⟩⟩ rfl rfl hl.1 rfl (lv_room (Nat.le_of_ble_eq_true rfl)) dX0_membersOf_28 ⟨Nat.le_of_ble_eq_true rfl, Nat.le_of_ble_eq_true rfl⟩) (fun r_2 hr_2 => ?_)
          have hr_2 : r_2 = nI (k * 3 + b) := hr_2
          subst hr_2
          refine nv_lald hx hb hK.1 hW (130 + 5 * i) 1 (cw_C (i := i) (by omega)) rfl (i := k * 3 + b) (by omega) (by decide) dX0_membersOf_31 ?_
          refine lv_lor hx hb dX0_membersOf_32 ?_
          refine lv_lstore_n (lv' := [(2, .long (x ||| (S.2 (130 + 5 * i) (k * 3 + b)))), (0, .ref (gA G (129 + 5 * i))), (1, .int (nI b)), (4, .int (nI k))]) hx hb dX0_membersOf_33 rfl hl (by decide) rfl (fun ls hl => ?_)
          refine lv_iinc (v := nI (k + 1)) (lv' := [(4, .int (nI (k + 1))), (2, .long (x ||| (S.2 (130 + 5 * i) (k * 3 + b)))), (0, .ref (gA G (129 + 5 * i))), (1, .int (nI b))]) hx hb dX0_membersOf_34 hl (k := 3) rfl (nI_add k 1) (by decide) rfl (fun ls hl => ?_)
          refine lv_goto (tgt := 5) hx hb dX0_membersOf_37 (by decide) ?_
          have E : memG S i b (n + 1) k x = memG S i b n (k + 1) (x ||| (S.2 (130 + 5 * i) (k * 3 + b))) := by rw [memG]; simp [c_17]
          rw [E]
          exact ih (k + 1) _ (by omega) ls (lv_sub hl [2, 3, 1, 0] rfl)
  refine lv_lconst (v := 0) hx hb dX0_membersOf_0 (by decide) ?_
  refine lv_lstore_n (lv' := [(2, .long 0), (0, .ref (gA G (129 + 5 * i))), (1, .int (nI b))]) hx hb dX0_membersOf_1 rfl hl (by decide) rfl (fun ls hl => ?_)
  refine lv_iconst (v := nI 0) hx hb dX0_membersOf_2 (by decide) ?_
  refine lv_istore (lv' := [(4, .int (nI 0)), (2, .long 0), (0, .ref (gA G (129 + 5 * i))), (1, .int (nI b))]) hx hb dX0_membersOf_3 hl (by decide) rfl (fun ls hl => ?_)
  exact LP 4 0 0 (by omega) ls (lv_sub hl [2, 3, 1, 0] rfl)

set_option maxHeartbeats 4000000 in
set_option maxRecDepth 100000 in
theorem k_X0_list (l : Launch) (G : GT) (S : SS) (sz : Nat) {i : Nat} (hi : i < 2) {c0 : Nat} (hc : S.1 (129 + 5 * i) 9 = nI c0) (h48 : c0 < 48) (x y : Int32) : Met l yX0_list wsX0_list ({ frames := 0, cells := 0, slots := 0, locals := 0 } : Room) (va_Pc [.ref (gA G (129 + 5 * i)), .int x, .int y] (fun U => U.heap.size = sz ∧ cP G S U)) (va_Qv (fun S' => S' = s1 (s1 (s1 S (132 + 5 * i) c0 x) (133 + 5 * i) c0 y) (129 + 5 * i) 9 (nI (c0 + 1))) (cB G) (gF G sz)) 0 0 (gF G sz) := by
  refine Met.ofW (cc := cX0_list) (maxL := 3) (ret := none) (by decide) rfl ?_
  intro p e s m args below meth c s₁ B hml hv
  obtain ⟨rfl, hsz, hW, hK⟩ := hv
  subst hsz
  have hx := B.exec
  have hb := B.bytes
  have hr := B.returns
  have hts := atoms_spec (ws := wsX0_list) B.pre
  have hown : s.vm.findClass RX0 = some m.cls := findClass_of_methodNamed B.named
  have hlocks := B.notSynchronized
  have hS : va_S (gF G s.heap.size) s.heap s.heap [] := va_S.rf
  have inX0 : ∀ w ∈ u_ws RX0 TX0 10, w ∈ wsX0_list := by decide +kernel
  have hl := lv_entry ([.ref (gA G (129 + 5 * i)), .int x, .int y]) (n := 3) (Nat.le_of_ble_eq_true rfl)
  rw [lg_entry_eq]
  generalize (lg_sl ([.ref (gA G (129 + 5 * i)), .int x, .int y]) ++ List.replicate (3 - (lg_sl ([.ref (gA G (129 + 5 * i)), .int x, .int y])).length) Slot.unset).toArray = ls at hl ⊢
  have hl : lv_has ls 3 [(0, .ref (gA G (129 + 5 * i))), (1, .int x), (2, .int y)] := hl
  refine lv_aload_n hx hb dX0_list_0 rfl (lv_at hl 0 rfl) ?_
  refine va_get (D := gD G) (ci := 0) (v := .int (nI c0)) (C := RX0) (T := TX0) (N := 10) hx hb hts inX0 hown hK.1 hW (129 + 5 * i) (cw_P (i := i) (by omega)) rfl 9 (by decide) (hts (.fieldLink RX0 52 "MarkedTrees$Peer" "listed" "I") (by decide +kernel)) (fun _ h9 => h9) (by rw [← hc]; rfl) dX0_list_1 ?_
  refine lv_aload_n hx hb dX0_list_4 rfl (lv_at hl 0 rfl) ?_
  refine va_get (D := gD G) (ci := 0) (v := .ref (gA G (132 + 5 * i))) (C := RX0) (T := TX0) (N := 10) hx hb hts inX0 hown hK.1 hW (129 + 5 * i) (cw_P (i := i) (by omega)) rfl 7 (by decide) (hts (.fieldLink RX0 37 "MarkedTrees$Peer" "listedNodes" "[I") (by decide +kernel)) (fun _ h9 => h9) rfl dX0_list_5 ?_
  refine va_alen (v := nI 48) hx hb hK.1 hW (132 + 5 * i) 0 (cw_N (i := i) (by omega)) (ty := .int) rfl rfl dX0_list_8 ?_
  refine nv_icmp_ge (tgt := 42) hx hb (by omega) (by omega) dX0_list_9 (by decide) (fun c_9 => ?_) (fun c_9 => ?_)
  · exact absurd c_9 (by omega)
  · refine lv_aload_n hx hb dX0_list_12 rfl (lv_at hl 0 rfl) ?_
    refine va_get (D := gD G) (ci := 0) (v := .ref (gA G (132 + 5 * i))) (C := RX0) (T := TX0) (N := 10) hx hb hts inX0 hown hK.1 hW (129 + 5 * i) (cw_P (i := i) (by omega)) rfl 7 (by decide) (hts (.fieldLink RX0 37 "MarkedTrees$Peer" "listedNodes" "[I") (by decide +kernel)) (fun _ h9 => h9) rfl dX0_list_13 ?_
    refine lv_aload_n hx hb dX0_list_16 rfl (lv_at hl 0 rfl) ?_
    refine va_get (D := gD G) (ci := 0) (v := .int (nI c0)) (C := RX0) (T := TX0) (N := 10) hx hb hts inX0 hown hK.1 hW (129 + 5 * i) (cw_P (i := i) (by omega)) rfl 9 (by decide) (hts (.fieldLink RX0 52 "MarkedTrees$Peer" "listed" "I") (by decide +kernel)) (fun _ h9 => h9) (by rw [← hc]; rfl) dX0_list_17 ?_
    refine lv_iload_n hx hb dX0_list_20 rfl (lv_at hl 1 rfl) ?_
    refine nv_iast hx hb hK.1 hW (wl_D hK.2.1) hS (132 + 5 * i) 0 (cw_N (i := i) (by omega)) rfl (i := c0) (by omega) (by decide) dX0_list_21 (fun H locs hW hS => ?_)
    have hW : cW G (s1 S (132 + 5 * i) c0 x) H := cp_N (by omega) hW
    obtain ⟨S_1, eS_1⟩ : ∃ z, z = s1 S (132 + 5 * i) c0 x := ⟨_, rfl⟩
    rw [← eS_1] at hW
    refine lv_aload_n hx hb dX0_list_22 rfl (lv_at hl 0 rfl) ?_
    refine va_get (D := gD G) (ci := 0) (v := .ref (gA G (133 + 5 * i))) (C := RX0) (T := TX0) (N := 10) hx hb hts inX0 hown hK.1 hW (129 + 5 * i) (cw_P (i := i) (by omega)) rfl 8 (by decide) (hts (.fieldLink RX0 40 "MarkedTrees$Peer" "listedKinds" "[I") (by decide +kernel)) (fun _ h9 => h9) rfl dX0_list_23 ?_
    have hc_2 : S_1.1 (129 + 5 * i) 9 = nI c0 := by rw [eS_1, s1_ne _ _ _ _ (by omega)]; exact hc
    refine lv_aload_n hx hb dX0_list_26 rfl (lv_at hl 0 rfl) ?_
    refine va_get (D := gD G) (ci := 0) (v := .int (nI c0)) (C := RX0) (T := TX0) (N := 10) hx hb hts inX0 hown hK.1 hW (129 + 5 * i) (cw_P (i := i) (by omega)) rfl 9 (by decide) (hts (.fieldLink RX0 52 "MarkedTrees$Peer" "listed" "I") (by decide +kernel)) (fun _ h9 => h9) (by rw [← hc_2]; rfl) dX0_list_27 ?_
    refine lv_iload_n hx hb dX0_list_30 rfl (lv_at hl 2 rfl) ?_
    refine nv_iast hx hb hK.1 hW (wl_D hK.2.1) hS (133 + 5 * i) 0 (cw_K (i := i) (by omega)) rfl (i := c0) (by omega) (by decide) dX0_list_31 (fun H locs hW hS => ?_)
    have hW : cW G (s1 S_1 (133 + 5 * i) c0 y) H := cp_K (by omega) hW
    obtain ⟨S_3, eS_3⟩ : ∃ z, z = s1 S_1 (133 + 5 * i) c0 y := ⟨_, rfl⟩
    rw [← eS_3] at hW
    have hc_4 : S_3.1 (129 + 5 * i) 9 = nI c0 := by rw [eS_3, s1_ne _ _ _ _ (by omega)]; exact hc_2
    refine lv_aload_n hx hb dX0_list_32 rfl (lv_at hl 0 rfl) ?_
    refine lv_dup hx hb dX0_list_33 rfl ?_
    refine va_get (D := gD G) (ci := 0) (v := .int (nI c0)) (C := RX0) (T := TX0) (N := 10) hx hb hts inX0 hown hK.1 hW (129 + 5 * i) (cw_P (i := i) (by omega)) rfl 9 (by decide) (hts (.fieldLink RX0 52 "MarkedTrees$Peer" "listed" "I") (by decide +kernel)) (fun _ h9 => h9) (by rw [← hc_4]; rfl) dX0_list_34 ?_
    refine lv_iconst (v := nI 1) hx hb dX0_list_37 (by decide) ?_
    refine nv_iadd hx hb dX0_list_38 ?_
    refine va_put (D := gD G) (ci := 0) (v := .int (nI (c0 + 1))) (ty := .int) (C := RX0) (T := TX0) (N := 10) hx hb hts inX0 tyX0 tyX0_ok nmX0 hown hK.1 hW (wl_D hK.2.1) hS (129 + 5 * i) (cw_P (i := i) (by omega)) rfl 9 (by decide) (hts (.fieldLink RX0 52 "MarkedTrees$Peer" "listed" "I") (by decide +kernel)) (fun _ h9 => h9) rfl (by decide +kernel) rfl rfl (Nat.le_of_ble_eq_true rfl) dX0_list_39 (fun H locs hW _ hS => ?_)
    have hW : cW G (s1 S_3 (129 + 5 * i) 9 (nI (c0 + 1))) H := cp_P_9 (by omega) hW
    obtain ⟨S_5, eS_5⟩ : ∃ z, z = s1 S_3 (129 + 5 * i) 9 (nI (c0 + 1)) := ⟨_, rfl⟩
    rw [← eS_5] at hW
    exact W.vret hx hb hr (fun t9 ht9 _ => ⟨⟨S_5, rfl, (by subst_vars; rfl), (show cW G S_5 t9.heap by rw [ht9]; exact hW)⟩, hS.F ht9⟩) hS.2.2 dX0_list_42

set_option maxHeartbeats 4000000 in
set_option maxRecDepth 100000 in
theorem k_J7_fill_53178 (l : Launch) (G : GT) (S : SS) (sz : Nat) {i : Nat} (hi : i < 2) (x : Int32) : Met l yJ7_fill_53178 wsJ7_fill_53178 ({ frames := 0, cells := 0, slots := 0, locals := 0 } : Room) (va_Pc [.ref (gA G (131 + 5 * i)), .int x] (fun U => U.heap.size = sz ∧ cP G S U)) (va_Qv (fun S' => S' = fillG (131 + 5 * i) x 48 0 S) (cB G) (gF G sz)) 0 0 (gF G sz) := by
  refine Met.ofW (cc := cJ7_fill_53178) (maxL := 4) (ret := none) (by decide) rfl ?_
  intro p e s m args below meth c s₁ B hml hv
  obtain ⟨rfl, hsz, hW, hK⟩ := hv
  subst hsz
  have hx := B.exec
  have hb := B.bytes
  have hr := B.returns
  have hts := atoms_spec (ws := wsJ7_fill_53178) B.pre
  have hown : s.vm.findClass RJ7 = some m.cls := findClass_of_methodNamed B.named
  have hlocks := B.notSynchronized
  have hS : va_S (gF G s.heap.size) s.heap s.heap [] := va_S.rf
  have hl := lv_entry ([.ref (gA G (131 + 5 * i)), .int x]) (n := 4) (Nat.le_of_ble_eq_true rfl)
  rw [lg_entry_eq]
  generalize (lg_sl ([.ref (gA G (131 + 5 * i)), .int x]) ++ List.replicate (4 - (lg_sl ([.ref (gA G (131 + 5 * i)), .int x])).length) Slot.unset).toArray = ls at hl ⊢
  have hl : lv_has ls 4 [(0, .ref (gA G (131 + 5 * i))), (1, .int x)] := hl
  have LP : ∀ (n : Nat) (j : Nat) (Q : SS) (H : Heap) (locs : List Loc), (cW G Q H) → (va_S (gF G s.heap.size) s.heap H locs) → (j + n = 48) → ∀ (ls : Array Slot), lv_has ls 4 [(0, .ref (gA G (131 + 5 * i))), (1, .int x), (2, .int (nI j)), (3, .int (nI 48))] → W p l e (headSpec wsJ7_fill_53178 ({ frames := 0, cells := 0, slots := 0, locals := 0 } : Room)).room s m ([.ref (gA G (131 + 5 * i)), .int x] : List Value).toArray below meth c H locs 0 0 (MQ below (va_Qv (fun S' => S' = fillG (131 + 5 * i) x n j Q) (cB G) (gF G s.heap.size)) ([.ref (gA G (131 + 5 * i)), .int x] : List Value).toArray s 0 0 (gF G s.heap.size)) (F0 m 5 ls []) := by
    intro n
    induction n with
    | zero =>
      intro j Q H locs hW hS h2 ls hl
      refine lv_iload_n hx hb dJ7_fill_53178_5 rfl (lv_at hl 2 rfl) ?_
      refine lv_iload_n hx hb dJ7_fill_53178_6 rfl (lv_at hl 3 rfl) ?_
      refine nv_icmp_ge (tgt := 20) hx hb (by omega) (by omega) dJ7_fill_53178_7 (by decide) (fun c_7 => ?_) (fun c_7 => ?_)
      · exact W.vret hx hb hr (fun t9 ht9 _ => ⟨⟨Q, rfl, rfl, (show cW G Q t9.heap by rw [ht9]; exact hW)⟩, hS.F ht9⟩) hS.2.2 dJ7_fill_53178_20
      · exact absurd c_7 (by omega)
    | succ n ih =>
      intro j Q H locs hW hS h2 ls hl
      refine lv_iload_n hx hb dJ7_fill_53178_5 rfl (lv_at hl 2 rfl) ?_
      refine lv_iload_n hx hb dJ7_fill_53178_6 rfl (lv_at hl 3 rfl) ?_
      refine nv_icmp_ge (tgt := 20) hx hb (by omega) (by omega) dJ7_fill_53178_7 (by decide) (fun c_7 => ?_) (fun c_7 => ?_)
      · exact absurd c_7 (by omega)
      · refine lv_aload_n hx hb dJ7_fill_53178_10 rfl (lv_at hl 0 rfl) ?_
        refine lv_iload_n hx hb dJ7_fill_53178_11 rfl (lv_at hl 2 rfl) ?_
        refine lv_iload_n hx hb dJ7_fill_53178_12 rfl (lv_at hl 1 rfl) ?_
        refine nv_iast hx hb hK.1 hW (wl_D hK.2.1) hS (131 + 5 * i) 0 (cw_D (i := i) (by omega)) rfl (i := j) (by omega) (by decide) dJ7_fill_53178_13 (fun H locs hW hS => ?_)
        have hW : cW G (s1 Q (131 + 5 * i) j x) H := cp_D (by omega) hW
        obtain ⟨S_1, eS_1⟩ : ∃ z, z = s1 Q (131 + 5 * i) j x := ⟨_, rfl⟩
        rw [← eS_1] at hW
        refine lv_iinc (v := nI (j + 1)) (lv' := [(2, .int (nI (j + 1))), (0, .ref (gA G (131 + 5 * i))), (1, .int x), (3, .int (nI 48))]) hx hb dJ7_fill_53178_14 hl (k := 2) rfl (nI_add j 1) (by decide) rfl (fun ls hl => ?_)
        refine lv_goto (tgt := 5) hx hb dJ7_fill_53178_17 (by decide) ?_
        have E : fillG (131 + 5 * i) x (n + 1) j Q = fillG (131 + 5 * i) x n (j + 1) S_1 := by subst_vars; rfl
        rw [E]
        exact ih (j + 1) S_1 H locs hW hS (by omega) ls (lv_sub hl [1, 2, 0, 3] rfl)
  refine lv_iconst (v := nI 0) hx hb dJ7_fill_53178_0 (by decide) ?_
  refine lv_istore_n (lv' := [(2, .int (nI 0)), (0, .ref (gA G (131 + 5 * i))), (1, .int x)]) hx hb dJ7_fill_53178_1 rfl hl (by decide) rfl (fun ls hl => ?_)
  refine lv_aload_n hx hb dJ7_fill_53178_2 rfl (lv_at hl 1 rfl) ?_
  refine va_alen (v := nI 48) hx hb hK.1 hW (131 + 5 * i) 0 (cw_D (i := i) (by omega)) (ty := .int) rfl rfl dJ7_fill_53178_3 ?_
  refine lv_istore_n (lv' := [(3, .int (nI 48)), (2, .int (nI 0)), (0, .ref (gA G (131 + 5 * i))), (1, .int x)]) hx hb dJ7_fill_53178_4 rfl hl (by decide) rfl (fun ls hl => ?_)
  exact LP 48 0 S s.heap [] hW hS (by omega) ls (lv_sub hl [2, 3, 1, 0] rfl)

set_option maxHeartbeats 4000000 in
set_option maxRecDepth 100000 in
theorem k_X0_forgetDecisions (l : Launch) (G : GT) (S : SS) (sz : Nat) {i : Nat} (hi : i < 2) : Met l yX0_forgetDecisions wsX0_forgetDecisions ({ frames := 1, cells := 0, slots := 0, locals := 23 } : Room) (va_Pc [.ref (gA G (129 + 5 * i))] (fun U => U.heap.size = sz ∧ cP G S U)) (va_Qv (fun S' => S' = s1 (fillG (131 + 5 * i) (-1) 48 0 S) (129 + 5 * i) 6 (nI 0)) (cB G) (gF G sz)) 0 0 (gF G sz) := by
  refine Met.ofW (cc := cX0_forgetDecisions) (maxL := 1) (ret := none) (by decide) rfl ?_
  intro p e s m args below meth c s₁ B hml hv
  obtain ⟨rfl, hsz, hW, hK⟩ := hv
  subst hsz
  have hx := B.exec
  have hb := B.bytes
  have hr := B.returns
  have hts := atoms_spec (ws := wsX0_forgetDecisions) B.pre
  have hown : s.vm.findClass RX0 = some m.cls := findClass_of_methodNamed B.named
  have hlocks := B.notSynchronized
  have hS : va_S (gF G s.heap.size) s.heap s.heap [] := va_S.rf
  have inX0 : ∀ w ∈ u_ws RX0 TX0 10, w ∈ wsX0_forgetDecisions := by decide +kernel
  have hl := lv_entry ([.ref (gA G (129 + 5 * i))]) (n := 1) (Nat.le_of_ble_eq_true rfl)
  rw [lg_entry_eq]
  generalize (lg_sl ([.ref (gA G (129 + 5 * i))]) ++ List.replicate (1 - (lg_sl ([.ref (gA G (129 + 5 * i))])).length) Slot.unset).toArray = ls at hl ⊢
  have hl : lv_has ls 1 [(0, .ref (gA G (129 + 5 * i)))] := hl
  refine lv_aload_n hx hb dX0_forgetDecisions_0 rfl (lv_at hl 0 rfl) ?_
  refine va_get (D := gD G) (ci := 0) (v := .ref (gA G (131 + 5 * i))) (C := RX0) (T := TX0) (N := 10) hx hb hts inX0 hown hK.1 hW (129 + 5 * i) (cw_P (i := i) (by omega)) rfl 5 (by decide) (hts (.fieldLink RX0 33 "MarkedTrees$Peer" "decisions" "[I") (by decide +kernel)) (fun _ h9 => h9) rfl dX0_forgetDecisions_1 ?_
  refine lv_iconst (v := (-1)) hx hb dX0_forgetDecisions_4 (by decide) ?_
  refine ev_v (va_runS (As := [.ref (gA G (131 + 5 * i)), .int (-1)]) (rest := []) ⟨hx, hb, hml, hown, hts⟩ (k_J7_fill_53178 l G S s.heap.size (i := i) (by omega) (-1)) (va_cwS 2 hts gX0_forgetDecisions_J7_fill_53178 rfl rfl rfl (by decide +kernel) ⟨Nat.le_of_ble_eq_true rfl, Nat.le_of_ble_eq_true rfl⟩) ⟨cQ_blind, cQ_at hW hK hS⟩ rfl rfl hl.1 rfl (lv_room (Nat.le_of_ble_eq_true rfl)) dX0_forgetDecisions_5 ⟨Nat.le_of_ble_eq_true rfl, Nat.le_of_ble_eq_true rfl⟩) hS (fun S_1 t9 H locs ht9 hS_1 hW hS => ?_)
  have hW : cW G S_1 H := ht9 ▸ hW
  refine lv_aload_n hx hb dX0_forgetDecisions_8 rfl (lv_at hl 0 rfl) ?_
  refine lv_iconst (v := nI 0) hx hb dX0_forgetDecisions_9 (by decide) ?_
  refine va_put (D := gD G) (ci := 0) (v := .int (nI 0)) (ty := .int) (C := RX0) (T := TX0) (N := 10) hx hb hts inX0 tyX0 tyX0_ok nmX0 hown hK.1 hW (wl_D hK.2.1) hS (129 + 5 * i) (cw_P (i := i) (by omega)) rfl 6 (by decide) (hts (.fieldLink RX0 49 "MarkedTrees$Peer" "buried" "I") (by decide +kernel)) (fun _ h9 => h9) rfl (by decide +kernel) rfl rfl (Nat.le_of_ble_eq_true rfl) dX0_forgetDecisions_10 (fun H locs hW _ hS => ?_)
  have hW : cW G (s1 S_1 (129 + 5 * i) 6 (nI 0)) H := cp_P_6 (by omega) hW
  obtain ⟨S_2, eS_2⟩ : ∃ z, z = s1 S_1 (129 + 5 * i) 6 (nI 0) := ⟨_, rfl⟩
  rw [← eS_2] at hW
  exact W.vret hx hb hr (fun t9 ht9 _ => ⟨⟨S_2, rfl, (by subst_vars; rfl), (show cW G S_2 t9.heap by rw [ht9]; exact hW)⟩, hS.F ht9⟩) hS.2.2 dX0_forgetDecisions_13

set_option maxHeartbeats 4000000 in
set_option maxRecDepth 100000 in
theorem k_J13_bitCount_95d88 (l : Launch) (x : Int64) : Met l yJ13_bitCount_95d88 wsJ13_bitCount_95d88 ({ frames := 0, cells := 0, slots := 0, locals := 0 } : Room) (va_Pc [.long x] (fun _ => True)) (vp_Si (fun r => r = bc x)) 0 0 (fun _ => False) := by
  refine Met.ofW (cc := cJ13_bitCount_95d88) (maxL := 2) (ret := (some .int)) (by decide) rfl ?_
  intro p e s m args below meth c s₁ B hml hv
  obtain ⟨rfl, -⟩ := hv
  have hx := B.exec
  have hb := B.bytes
  have hr := B.returns
  have hts := atoms_spec (ws := wsJ13_bitCount_95d88) B.pre
  have hown : s.vm.findClass RJ13 = some m.cls := findClass_of_methodNamed B.named
  have hlocks := B.notSynchronized
  have hl := lv_entry ([.long x]) (n := 2) (Nat.le_of_ble_eq_true rfl)
  rw [lg_entry_eq]
  generalize (lg_sl ([.long x]) ++ List.replicate (2 - (lg_sl ([.long x])).length) Slot.unset).toArray = ls at hl ⊢
  have hl : lv_has ls 2 [(0, .long x)] := hl
  refine lv_lload_n hx hb dJ13_bitCount_95d88_0 rfl (lv_at hl 0 rfl) ?_
  refine lv_lload_n hx hb dJ13_bitCount_95d88_1 rfl (lv_at hl 0 rfl) ?_
  refine lv_iconst (v := nI 1) hx hb dJ13_bitCount_95d88_2 (by decide) ?_
  refine lv_lushr (v := (x.toUInt64 >>> ((nI 1).toInt64.toUInt64 &&& Int64.toUInt64 63)).toInt64) hx hb dJ13_bitCount_95d88_3 rfl ?_
  refine lv_ldc2 (v := 6148914691236517205) hx hb hown (hts (.constantLong RJ13 314 6148914691236517205) (by decide +kernel)) dJ13_bitCount_95d88_4 ?_
  refine lv_land hx hb dJ13_bitCount_95d88_7 ?_
  refine lv_lsub hx hb dJ13_bitCount_95d88_8 ?_
  refine lv_lstore_n (lv' := [(0, .long (x - (((x.toUInt64 >>> ((nI 1).toInt64.toUInt64 &&& Int64.toUInt64 63)).toInt64) &&& 6148914691236517205)))]) hx hb dJ13_bitCount_95d88_9 rfl hl (by decide) rfl (fun ls hl => ?_)
  refine lv_lload_n hx hb dJ13_bitCount_95d88_10 rfl (lv_at hl 0 rfl) ?_
  refine lv_ldc2 (v := 3689348814741910323) hx hb hown (hts (.constantLong RJ13 316 3689348814741910323) (by decide +kernel)) dJ13_bitCount_95d88_11 ?_
  refine lv_land hx hb dJ13_bitCount_95d88_14 ?_
  refine lv_lload_n hx hb dJ13_bitCount_95d88_15 rfl (lv_at hl 0 rfl) ?_
  refine lv_iconst (v := nI 2) hx hb dJ13_bitCount_95d88_16 (by decide) ?_
  refine lv_lushr (v := ((x - (((x.toUInt64 >>> ((nI 1).toInt64.toUInt64 &&& Int64.toUInt64 63)).toInt64) &&& 6148914691236517205)).toUInt64 >>> ((nI 2).toInt64.toUInt64 &&& Int64.toUInt64 63)).toInt64) hx hb dJ13_bitCount_95d88_17 rfl ?_
  refine lv_ldc2 (v := 3689348814741910323) hx hb hown (hts (.constantLong RJ13 316 3689348814741910323) (by decide +kernel)) dJ13_bitCount_95d88_18 ?_
  refine lv_land hx hb dJ13_bitCount_95d88_21 ?_
  refine lv_ladd hx hb dJ13_bitCount_95d88_22 ?_
  refine lv_lstore_n (lv' := [(0, .long (((x - (((x.toUInt64 >>> ((nI 1).toInt64.toUInt64 &&& Int64.toUInt64 63)).toInt64) &&& 6148914691236517205)) &&& 3689348814741910323) + ((((x - (((x.toUInt64 >>> ((nI 1).toInt64.toUInt64 &&& Int64.toUInt64 63)).toInt64) &&& 6148914691236517205)).toUInt64 >>> ((nI 2).toInt64.toUInt64 &&& Int64.toUInt64 63)).toInt64) &&& 3689348814741910323)))]) hx hb dJ13_bitCount_95d88_23 rfl hl (by decide) rfl (fun ls hl => ?_)
  refine lv_lload_n hx hb dJ13_bitCount_95d88_24 rfl (lv_at hl 0 rfl) ?_
  refine lv_lload_n hx hb dJ13_bitCount_95d88_25 rfl (lv_at hl 0 rfl) ?_
  refine lv_iconst (v := nI 4) hx hb dJ13_bitCount_95d88_26 (by decide) ?_
  refine lv_lushr (v := ((((x - (((x.toUInt64 >>> ((nI 1).toInt64.toUInt64 &&& Int64.toUInt64 63)).toInt64) &&& 6148914691236517205)) &&& 3689348814741910323) + ((((x - (((x.toUInt64 >>> ((nI 1).toInt64.toUInt64 &&& Int64.toUInt64 63)).toInt64) &&& 6148914691236517205)).toUInt64 >>> ((nI 2).toInt64.toUInt64 &&& Int64.toUInt64 63)).toInt64) &&& 3689348814741910323)).toUInt64 >>> ((nI 4).toInt64.toUInt64 &&& Int64.toUInt64 63)).toInt64) hx hb dJ13_bitCount_95d88_27 rfl ?_
  refine lv_ladd hx hb dJ13_bitCount_95d88_28 ?_
  refine lv_ldc2 (v := 1085102592571150095) hx hb hown (hts (.constantLong RJ13 318 1085102592571150095) (by decide +kernel)) dJ13_bitCount_95d88_29 ?_
  refine lv_land hx hb dJ13_bitCount_95d88_32 ?_
  refine lv_lstore_n (lv' := [(0, .long (((((x - (((x.toUInt64 >>> ((nI 1).toInt64.toUInt64 &&& Int64.toUInt64 63)).toInt64) &&& 6148914691236517205)) &&& 3689348814741910323) + ((((x - (((x.toUInt64 >>> ((nI 1).toInt64.toUInt64 &&& Int64.toUInt64 63)).toInt64) &&& 6148914691236517205)).toUInt64 >>> ((nI 2).toInt64.toUInt64 &&& Int64.toUInt64 63)).toInt64) &&& 3689348814741910323)) + (((((x - (((x.toUInt64 >>> ((nI 1).toInt64.toUInt64 &&& Int64.toUInt64 63)).toInt64) &&& 6148914691236517205)) &&& 3689348814741910323) + ((((x - (((x.toUInt64 >>> ((nI 1).toInt64.toUInt64 &&& Int64.toUInt64 63)).toInt64) &&& 6148914691236517205)).toUInt64 >>> ((nI 2).toInt64.toUInt64 &&& Int64.toUInt64 63)).toInt64) &&& 3689348814741910323)).toUInt64 >>> ((nI 4).toInt64.toUInt64 &&& Int64.toUInt64 63)).toInt64)) &&& 1085102592571150095))]) hx hb dJ13_bitCount_95d88_33 rfl hl (by decide) rfl (fun ls hl => ?_)
  refine lv_lload_n hx hb dJ13_bitCount_95d88_34 rfl (lv_at hl 0 rfl) ?_
  refine lv_lload_n hx hb dJ13_bitCount_95d88_35 rfl (lv_at hl 0 rfl) ?_
  refine lv_bipush (v := nI 8) hx hb dJ13_bitCount_95d88_36 (by decide) ?_
  refine lv_lushr (v := ((((((x - (((x.toUInt64 >>> ((nI 1).toInt64.toUInt64 &&& Int64.toUInt64 63)).toInt64) &&& 6148914691236517205)) &&& 3689348814741910323) + ((((x - (((x.toUInt64 >>> ((nI 1).toInt64.toUInt64 &&& Int64.toUInt64 63)).toInt64) &&& 6148914691236517205)).toUInt64 >>> ((nI 2).toInt64.toUInt64 &&& Int64.toUInt64 63)).toInt64) &&& 3689348814741910323)) + (((((x - (((x.toUInt64 >>> ((nI 1).toInt64.toUInt64 &&& Int64.toUInt64 63)).toInt64) &&& 6148914691236517205)) &&& 3689348814741910323) + ((((x - (((x.toUInt64 >>> ((nI 1).toInt64.toUInt64 &&& Int64.toUInt64 63)).toInt64) &&& 6148914691236517205)).toUInt64 >>> ((nI 2).toInt64.toUInt64 &&& Int64.toUInt64 63)).toInt64) &&& 3689348814741910323)).toUInt64 >>> ((nI 4).toInt64.toUInt64 &&& Int64.toUInt64 63)).toInt64)) &&& 1085102592571150095).toUInt64 >>> ((nI 8).toInt64.toUInt64 &&& Int64.toUInt64 63)).toInt64) hx hb dJ13_bitCount_95d88_38 rfl ?_
  refine lv_ladd hx hb dJ13_bitCount_95d88_39 ?_
  refine lv_lstore_n (lv' := [(0, .long ((((((x - (((x.toUInt64 >>> ((nI 1).toInt64.toUInt64 &&& Int64.toUInt64 63)).toInt64) &&& 6148914691236517205)) &&& 3689348814741910323) + ((((x - (((x.toUInt64 >>> ((nI 1).toInt64.toUInt64 &&& Int64.toUInt64 63)).toInt64) &&& 6148914691236517205)).toUInt64 >>> ((nI 2).toInt64.toUInt64 &&& Int64.toUInt64 63)).toInt64) &&& 3689348814741910323)) + (((((x - (((x.toUInt64 >>> ((nI 1).toInt64.toUInt64 &&& Int64.toUInt64 63)).toInt64) &&& 6148914691236517205)) &&& 3689348814741910323) + ((((x - (((x.toUInt64 >>> ((nI 1).toInt64.toUInt64 &&& Int64.toUInt64 63)).toInt64) &&& 6148914691236517205)).toUInt64 >>> ((nI 2).toInt64.toUInt64 &&& Int64.toUInt64 63)).toInt64) &&& 3689348814741910323)).toUInt64 >>> ((nI 4).toInt64.toUInt64 &&& Int64.toUInt64 63)).toInt64)) &&& 1085102592571150095) + (((((((x - (((x.toUInt64 >>> ((nI 1).toInt64.toUInt64 &&& Int64.toUInt64 63)).toInt64) &&& 6148914691236517205)) &&& 3689348814741910323) + ((((x - (((x.toUInt64 >>> ((nI 1).toInt64.toUInt64 &&& Int64.toUInt64 63)).toInt64) &&& 6148914691236517205)).toUInt64 >>> ((nI 2).toInt64.toUInt64 &&& Int64.toUInt64 63)).toInt64) &&& 3689348814741910323)) + (((((x - (((x.toUInt64 >>> ((nI 1).toInt64.toUInt64 &&& Int64.toUInt64 63)).toInt64) &&& 6148914691236517205)) &&& 3689348814741910323) + ((((x - (((x.toUInt64 >>> ((nI 1).toInt64.toUInt64 &&& Int64.toUInt64 63)).toInt64) &&& 6148914691236517205)).toUInt64 >>> ((nI 2).toInt64.toUInt64 &&& Int64.toUInt64 63)).toInt64) &&& 3689348814741910323)).toUInt64 >>> ((nI 4).toInt64.toUInt64 &&& Int64.toUInt64 63)).toInt64)) &&& 1085102592571150095).toUInt64 >>> ((nI 8).toInt64.toUInt64 &&& Int64.toUInt64 63)).toInt64)))]) hx hb dJ13_bitCount_95d88_40 rfl hl (by decide) rfl (fun ls hl => ?_)
  refine lv_lload_n hx hb dJ13_bitCount_95d88_41 rfl (lv_at hl 0 rfl) ?_
  refine lv_lload_n hx hb dJ13_bitCount_95d88_42 rfl (lv_at hl 0 rfl) ?_
  refine lv_bipush (v := nI 16) hx hb dJ13_bitCount_95d88_43 (by decide) ?_
  refine lv_lushr (v := (((((((x - (((x.toUInt64 >>> ((nI 1).toInt64.toUInt64 &&& Int64.toUInt64 63)).toInt64) &&& 6148914691236517205)) &&& 3689348814741910323) + ((((x - (((x.toUInt64 >>> ((nI 1).toInt64.toUInt64 &&& Int64.toUInt64 63)).toInt64) &&& 6148914691236517205)).toUInt64 >>> ((nI 2).toInt64.toUInt64 &&& Int64.toUInt64 63)).toInt64) &&& 3689348814741910323)) + (((((x - (((x.toUInt64 >>> ((nI 1).toInt64.toUInt64 &&& Int64.toUInt64 63)).toInt64) &&& 6148914691236517205)) &&& 3689348814741910323) + ((((x - (((x.toUInt64 >>> ((nI 1).toInt64.toUInt64 &&& Int64.toUInt64 63)).toInt64) &&& 6148914691236517205)).toUInt64 >>> ((nI 2).toInt64.toUInt64 &&& Int64.toUInt64 63)).toInt64) &&& 3689348814741910323)).toUInt64 >>> ((nI 4).toInt64.toUInt64 &&& Int64.toUInt64 63)).toInt64)) &&& 1085102592571150095) + (((((((x - (((x.toUInt64 >>> ((nI 1).toInt64.toUInt64 &&& Int64.toUInt64 63)).toInt64) &&& 6148914691236517205)) &&& 3689348814741910323) + ((((x - (((x.toUInt64 >>> ((nI 1).toInt64.toUInt64 &&& Int64.toUInt64 63)).toInt64) &&& 6148914691236517205)).toUInt64 >>> ((nI 2).toInt64.toUInt64 &&& Int64.toUInt64 63)).toInt64) &&& 3689348814741910323)) + (((((x - (((x.toUInt64 >>> ((nI 1).toInt64.toUInt64 &&& Int64.toUInt64 63)).toInt64) &&& 6148914691236517205)) &&& 3689348814741910323) + ((((x - (((x.toUInt64 >>> ((nI 1).toInt64.toUInt64 &&& Int64.toUInt64 63)).toInt64) &&& 6148914691236517205)).toUInt64 >>> ((nI 2).toInt64.toUInt64 &&& Int64.toUInt64 63)).toInt64) &&& 3689348814741910323)).toUInt64 >>> ((nI 4).toInt64.toUInt64 &&& Int64.toUInt64 63)).toInt64)) &&& 1085102592571150095).toUInt64 >>> ((nI 8).toInt64.toUInt64 &&& Int64.toUInt64 63)).toInt64)).toUInt64 >>> ((nI 16).toInt64.toUInt64 &&& Int64.toUInt64 63)).toInt64) hx hb dJ13_bitCount_95d88_45 rfl ?_
  refine lv_ladd hx hb dJ13_bitCount_95d88_46 ?_
  refine lv_lstore_n (lv' := [(0, .long (((((((x - (((x.toUInt64 >>> ((nI 1).toInt64.toUInt64 &&& Int64.toUInt64 63)).toInt64) &&& 6148914691236517205)) &&& 3689348814741910323) + ((((x - (((x.toUInt64 >>> ((nI 1).toInt64.toUInt64 &&& Int64.toUInt64 63)).toInt64) &&& 6148914691236517205)).toUInt64 >>> ((nI 2).toInt64.toUInt64 &&& Int64.toUInt64 63)).toInt64) &&& 3689348814741910323)) + (((((x - (((x.toUInt64 >>> ((nI 1).toInt64.toUInt64 &&& Int64.toUInt64 63)).toInt64) &&& 6148914691236517205)) &&& 3689348814741910323) + ((((x - (((x.toUInt64 >>> ((nI 1).toInt64.toUInt64 &&& Int64.toUInt64 63)).toInt64) &&& 6148914691236517205)).toUInt64 >>> ((nI 2).toInt64.toUInt64 &&& Int64.toUInt64 63)).toInt64) &&& 3689348814741910323)).toUInt64 >>> ((nI 4).toInt64.toUInt64 &&& Int64.toUInt64 63)).toInt64)) &&& 1085102592571150095) + (((((((x - (((x.toUInt64 >>> ((nI 1).toInt64.toUInt64 &&& Int64.toUInt64 63)).toInt64) &&& 6148914691236517205)) &&& 3689348814741910323) + ((((x - (((x.toUInt64 >>> ((nI 1).toInt64.toUInt64 &&& Int64.toUInt64 63)).toInt64) &&& 6148914691236517205)).toUInt64 >>> ((nI 2).toInt64.toUInt64 &&& Int64.toUInt64 63)).toInt64) &&& 3689348814741910323)) + (((((x - (((x.toUInt64 >>> ((nI 1).toInt64.toUInt64 &&& Int64.toUInt64 63)).toInt64) &&& 6148914691236517205)) &&& 3689348814741910323) + ((((x - (((x.toUInt64 >>> ((nI 1).toInt64.toUInt64 &&& Int64.toUInt64 63)).toInt64) &&& 6148914691236517205)).toUInt64 >>> ((nI 2).toInt64.toUInt64 &&& Int64.toUInt64 63)).toInt64) &&& 3689348814741910323)).toUInt64 >>> ((nI 4).toInt64.toUInt64 &&& Int64.toUInt64 63)).toInt64)) &&& 1085102592571150095).toUInt64 >>> ((nI 8).toInt64.toUInt64 &&& Int64.toUInt64 63)).toInt64)) + ((((((((x - (((x.toUInt64 >>> ((nI 1).toInt64.toUInt64 &&& Int64.toUInt64 63)).toInt64) &&& 6148914691236517205)) &&& 3689348814741910323) + ((((x - (((x.toUInt64 >>> ((nI 1).toInt64.toUInt64 &&& Int64.toUInt64 63)).toInt64) &&& 6148914691236517205)).toUInt64 >>> ((nI 2).toInt64.toUInt64 &&& Int64.toUInt64 63)).toInt64) &&& 3689348814741910323)) + (((((x - (((x.toUInt64 >>> ((nI 1).toInt64.toUInt64 &&& Int64.toUInt64 63)).toInt64) &&& 6148914691236517205)) &&& 3689348814741910323) + ((((x - (((x.toUInt64 >>> ((nI 1).toInt64.toUInt64 &&& Int64.toUInt64 63)).toInt64) &&& 6148914691236517205)).toUInt64 >>> ((nI 2).toInt64.toUInt64 &&& Int64.toUInt64 63)).toInt64) &&& 3689348814741910323)).toUInt64 >>> ((nI 4).toInt64.toUInt64 &&& Int64.toUInt64 63)).toInt64)) &&& 1085102592571150095) + (((((((x - (((x.toUInt64 >>> ((nI 1).toInt64.toUInt64 &&& Int64.toUInt64 63)).toInt64) &&& 6148914691236517205)) &&& 3689348814741910323) + ((((x - (((x.toUInt64 >>> ((nI 1).toInt64.toUInt64 &&& Int64.toUInt64 63)).toInt64) &&& 6148914691236517205)).toUInt64 >>> ((nI 2).toInt64.toUInt64 &&& Int64.toUInt64 63)).toInt64) &&& 3689348814741910323)) + (((((x - (((x.toUInt64 >>> ((nI 1).toInt64.toUInt64 &&& Int64.toUInt64 63)).toInt64) &&& 6148914691236517205)) &&& 3689348814741910323) + ((((x - (((x.toUInt64 >>> ((nI 1).toInt64.toUInt64 &&& Int64.toUInt64 63)).toInt64) &&& 6148914691236517205)).toUInt64 >>> ((nI 2).toInt64.toUInt64 &&& Int64.toUInt64 63)).toInt64) &&& 3689348814741910323)).toUInt64 >>> ((nI 4).toInt64.toUInt64 &&& Int64.toUInt64 63)).toInt64)) &&& 1085102592571150095).toUInt64 >>> ((nI 8).toInt64.toUInt64 &&& Int64.toUInt64 63)).toInt64)).toUInt64 >>> ((nI 16).toInt64.toUInt64 &&& Int64.toUInt64 63)).toInt64)))]) hx hb dJ13_bitCount_95d88_47 rfl hl (by decide) rfl (fun ls hl => ?_)
  refine lv_lload_n hx hb dJ13_bitCount_95d88_48 rfl (lv_at hl 0 rfl) ?_
  refine lv_lload_n hx hb dJ13_bitCount_95d88_49 rfl (lv_at hl 0 rfl) ?_
  refine lv_bipush (v := nI 32) hx hb dJ13_bitCount_95d88_50 (by decide) ?_
  refine lv_lushr (v := ((((((((x - (((x.toUInt64 >>> ((nI 1).toInt64.toUInt64 &&& Int64.toUInt64 63)).toInt64) &&& 6148914691236517205)) &&& 3689348814741910323) + ((((x - (((x.toUInt64 >>> ((nI 1).toInt64.toUInt64 &&& Int64.toUInt64 63)).toInt64) &&& 6148914691236517205)).toUInt64 >>> ((nI 2).toInt64.toUInt64 &&& Int64.toUInt64 63)).toInt64) &&& 3689348814741910323)) + (((((x - (((x.toUInt64 >>> ((nI 1).toInt64.toUInt64 &&& Int64.toUInt64 63)).toInt64) &&& 6148914691236517205)) &&& 3689348814741910323) + ((((x - (((x.toUInt64 >>> ((nI 1).toInt64.toUInt64 &&& Int64.toUInt64 63)).toInt64) &&& 6148914691236517205)).toUInt64 >>> ((nI 2).toInt64.toUInt64 &&& Int64.toUInt64 63)).toInt64) &&& 3689348814741910323)).toUInt64 >>> ((nI 4).toInt64.toUInt64 &&& Int64.toUInt64 63)).toInt64)) &&& 1085102592571150095) + (((((((x - (((x.toUInt64 >>> ((nI 1).toInt64.toUInt64 &&& Int64.toUInt64 63)).toInt64) &&& 6148914691236517205)) &&& 3689348814741910323) + ((((x - (((x.toUInt64 >>> ((nI 1).toInt64.toUInt64 &&& Int64.toUInt64 63)).toInt64) &&& 6148914691236517205)).toUInt64 >>> ((nI 2).toInt64.toUInt64 &&& Int64.toUInt64 63)).toInt64) &&& 3689348814741910323)) + (((((x - (((x.toUInt64 >>> ((nI 1).toInt64.toUInt64 &&& Int64.toUInt64 63)).toInt64) &&& 6148914691236517205)) &&& 3689348814741910323) + ((((x - (((x.toUInt64 >>> ((nI 1).toInt64.toUInt64 &&& Int64.toUInt64 63)).toInt64) &&& 6148914691236517205)).toUInt64 >>> ((nI 2).toInt64.toUInt64 &&& Int64.toUInt64 63)).toInt64) &&& 3689348814741910323)).toUInt64 >>> ((nI 4).toInt64.toUInt64 &&& Int64.toUInt64 63)).toInt64)) &&& 1085102592571150095).toUInt64 >>> ((nI 8).toInt64.toUInt64 &&& Int64.toUInt64 63)).toInt64)) + ((((((((x - (((x.toUInt64 >>> ((nI 1).toInt64.toUInt64 &&& Int64.toUInt64 63)).toInt64) &&& 6148914691236517205)) &&& 3689348814741910323) + ((((x - (((x.toUInt64 >>> ((nI 1).toInt64.toUInt64 &&& Int64.toUInt64 63)).toInt64) &&& 6148914691236517205)).toUInt64 >>> ((nI 2).toInt64.toUInt64 &&& Int64.toUInt64 63)).toInt64) &&& 3689348814741910323)) + (((((x - (((x.toUInt64 >>> ((nI 1).toInt64.toUInt64 &&& Int64.toUInt64 63)).toInt64) &&& 6148914691236517205)) &&& 3689348814741910323) + ((((x - (((x.toUInt64 >>> ((nI 1).toInt64.toUInt64 &&& Int64.toUInt64 63)).toInt64) &&& 6148914691236517205)).toUInt64 >>> ((nI 2).toInt64.toUInt64 &&& Int64.toUInt64 63)).toInt64) &&& 3689348814741910323)).toUInt64 >>> ((nI 4).toInt64.toUInt64 &&& Int64.toUInt64 63)).toInt64)) &&& 1085102592571150095) + (((((((x - (((x.toUInt64 >>> ((nI 1).toInt64.toUInt64 &&& Int64.toUInt64 63)).toInt64) &&& 6148914691236517205)) &&& 3689348814741910323) + ((((x - (((x.toUInt64 >>> ((nI 1).toInt64.toUInt64 &&& Int64.toUInt64 63)).toInt64) &&& 6148914691236517205)).toUInt64 >>> ((nI 2).toInt64.toUInt64 &&& Int64.toUInt64 63)).toInt64) &&& 3689348814741910323)) + (((((x - (((x.toUInt64 >>> ((nI 1).toInt64.toUInt64 &&& Int64.toUInt64 63)).toInt64) &&& 6148914691236517205)) &&& 3689348814741910323) + ((((x - (((x.toUInt64 >>> ((nI 1).toInt64.toUInt64 &&& Int64.toUInt64 63)).toInt64) &&& 6148914691236517205)).toUInt64 >>> ((nI 2).toInt64.toUInt64 &&& Int64.toUInt64 63)).toInt64) &&& 3689348814741910323)).toUInt64 >>> ((nI 4).toInt64.toUInt64 &&& Int64.toUInt64 63)).toInt64)) &&& 1085102592571150095).toUInt64 >>> ((nI 8).toInt64.toUInt64 &&& Int64.toUInt64 63)).toInt64)).toUInt64 >>> ((nI 16).toInt64.toUInt64 &&& Int64.toUInt64 63)).toInt64)).toUInt64 >>> ((nI 32).toInt64.toUInt64 &&& Int64.toUInt64 63)).toInt64) hx hb dJ13_bitCount_95d88_52 rfl ?_
  refine lv_ladd hx hb dJ13_bitCount_95d88_53 ?_
  refine lv_lstore_n (lv' := [(0, .long ((((((((x - (((x.toUInt64 >>> ((nI 1).toInt64.toUInt64 &&& Int64.toUInt64 63)).toInt64) &&& 6148914691236517205)) &&& 3689348814741910323) + ((((x - (((x.toUInt64 >>> ((nI 1).toInt64.toUInt64 &&& Int64.toUInt64 63)).toInt64) &&& 6148914691236517205)).toUInt64 >>> ((nI 2).toInt64.toUInt64 &&& Int64.toUInt64 63)).toInt64) &&& 3689348814741910323)) + (((((x - (((x.toUInt64 >>> ((nI 1).toInt64.toUInt64 &&& Int64.toUInt64 63)).toInt64) &&& 6148914691236517205)) &&& 3689348814741910323) + ((((x - (((x.toUInt64 >>> ((nI 1).toInt64.toUInt64 &&& Int64.toUInt64 63)).toInt64) &&& 6148914691236517205)).toUInt64 >>> ((nI 2).toInt64.toUInt64 &&& Int64.toUInt64 63)).toInt64) &&& 3689348814741910323)).toUInt64 >>> ((nI 4).toInt64.toUInt64 &&& Int64.toUInt64 63)).toInt64)) &&& 1085102592571150095) + (((((((x - (((x.toUInt64 >>> ((nI 1).toInt64.toUInt64 &&& Int64.toUInt64 63)).toInt64) &&& 6148914691236517205)) &&& 3689348814741910323) + ((((x - (((x.toUInt64 >>> ((nI 1).toInt64.toUInt64 &&& Int64.toUInt64 63)).toInt64) &&& 6148914691236517205)).toUInt64 >>> ((nI 2).toInt64.toUInt64 &&& Int64.toUInt64 63)).toInt64) &&& 3689348814741910323)) + (((((x - (((x.toUInt64 >>> ((nI 1).toInt64.toUInt64 &&& Int64.toUInt64 63)).toInt64) &&& 6148914691236517205)) &&& 3689348814741910323) + ((((x - (((x.toUInt64 >>> ((nI 1).toInt64.toUInt64 &&& Int64.toUInt64 63)).toInt64) &&& 6148914691236517205)).toUInt64 >>> ((nI 2).toInt64.toUInt64 &&& Int64.toUInt64 63)).toInt64) &&& 3689348814741910323)).toUInt64 >>> ((nI 4).toInt64.toUInt64 &&& Int64.toUInt64 63)).toInt64)) &&& 1085102592571150095).toUInt64 >>> ((nI 8).toInt64.toUInt64 &&& Int64.toUInt64 63)).toInt64)) + ((((((((x - (((x.toUInt64 >>> ((nI 1).toInt64.toUInt64 &&& Int64.toUInt64 63)).toInt64) &&& 6148914691236517205)) &&& 3689348814741910323) + ((((x - (((x.toUInt64 >>> ((nI 1).toInt64.toUInt64 &&& Int64.toUInt64 63)).toInt64) &&& 6148914691236517205)).toUInt64 >>> ((nI 2).toInt64.toUInt64 &&& Int64.toUInt64 63)).toInt64) &&& 3689348814741910323)) + (((((x - (((x.toUInt64 >>> ((nI 1).toInt64.toUInt64 &&& Int64.toUInt64 63)).toInt64) &&& 6148914691236517205)) &&& 3689348814741910323) + ((((x - (((x.toUInt64 >>> ((nI 1).toInt64.toUInt64 &&& Int64.toUInt64 63)).toInt64) &&& 6148914691236517205)).toUInt64 >>> ((nI 2).toInt64.toUInt64 &&& Int64.toUInt64 63)).toInt64) &&& 3689348814741910323)).toUInt64 >>> ((nI 4).toInt64.toUInt64 &&& Int64.toUInt64 63)).toInt64)) &&& 1085102592571150095) + (((((((x - (((x.toUInt64 >>> ((nI 1).toInt64.toUInt64 &&& Int64.toUInt64 63)).toInt64) &&& 6148914691236517205)) &&& 3689348814741910323) + ((((x - (((x.toUInt64 >>> ((nI 1).toInt64.toUInt64 &&& Int64.toUInt64 63)).toInt64) &&& 6148914691236517205)).toUInt64 >>> ((nI 2).toInt64.toUInt64 &&& Int64.toUInt64 63)).toInt64) &&& 3689348814741910323)) + (((((x - (((x.toUInt64 >>> ((nI 1).toInt64.toUInt64 &&& Int64.toUInt64 63)).toInt64) &&& 6148914691236517205)) &&& 3689348814741910323) + ((((x - (((x.toUInt64 >>> ((nI 1).toInt64.toUInt64 &&& Int64.toUInt64 63)).toInt64) &&& 6148914691236517205)).toUInt64 >>> ((nI 2).toInt64.toUInt64 &&& Int64.toUInt64 63)).toInt64) &&& 3689348814741910323)).toUInt64 >>> ((nI 4).toInt64.toUInt64 &&& Int64.toUInt64 63)).toInt64)) &&& 1085102592571150095).toUInt64 >>> ((nI 8).toInt64.toUInt64 &&& Int64.toUInt64 63)).toInt64)).toUInt64 >>> ((nI 16).toInt64.toUInt64 &&& Int64.toUInt64 63)).toInt64)) + (((((((((x - (((x.toUInt64 >>> ((nI 1).toInt64.toUInt64 &&& Int64.toUInt64 63)).toInt64) &&& 6148914691236517205)) &&& 3689348814741910323) + ((((x - (((x.toUInt64 >>> ((nI 1).toInt64.toUInt64 &&& Int64.toUInt64 63)).toInt64) &&& 6148914691236517205)).toUInt64 >>> ((nI 2).toInt64.toUInt64 &&& Int64.toUInt64 63)).toInt64) &&& 3689348814741910323)) + (((((x - (((x.toUInt64 >>> ((nI 1).toInt64.toUInt64 &&& Int64.toUInt64 63)).toInt64) &&& 6148914691236517205)) &&& 3689348814741910323) + ((((x - (((x.toUInt64 >>> ((nI 1).toInt64.toUInt64 &&& Int64.toUInt64 63)).toInt64) &&& 6148914691236517205)).toUInt64 >>> ((nI 2).toInt64.toUInt64 &&& Int64.toUInt64 63)).toInt64) &&& 3689348814741910323)).toUInt64 >>> ((nI 4).toInt64.toUInt64 &&& Int64.toUInt64 63)).toInt64)) &&& 1085102592571150095) + (((((((x - (((x.toUInt64 >>> ((nI 1).toInt64.toUInt64 &&& Int64.toUInt64 63)).toInt64) &&& 6148914691236517205)) &&& 3689348814741910323) + ((((x - (((x.toUInt64 >>> ((nI 1).toInt64.toUInt64 &&& Int64.toUInt64 63)).toInt64) &&& 6148914691236517205)).toUInt64 >>> ((nI 2).toInt64.toUInt64 &&& Int64.toUInt64 63)).toInt64) &&& 3689348814741910323)) + (((((x - (((x.toUInt64 >>> ((nI 1).toInt64.toUInt64 &&& Int64.toUInt64 63)).toInt64) &&& 6148914691236517205)) &&& 3689348814741910323) + ((((x - (((x.toUInt64 >>> ((nI 1).toInt64.toUInt64 &&& Int64.toUInt64 63)).toInt64) &&& 6148914691236517205)).toUInt64 >>> ((nI 2).toInt64.toUInt64 &&& Int64.toUInt64 63)).toInt64) &&& 3689348814741910323)).toUInt64 >>> ((nI 4).toInt64.toUInt64 &&& Int64.toUInt64 63)).toInt64)) &&& 1085102592571150095).toUInt64 >>> ((nI 8).toInt64.toUInt64 &&& Int64.toUInt64 63)).toInt64)) + ((((((((x - (((x.toUInt64 >>> ((nI 1).toInt64.toUInt64 &&& Int64.toUInt64 63)).toInt64) &&& 6148914691236517205)) &&& 3689348814741910323) + ((((x - (((x.toUInt64 >>> ((nI 1).toInt64.toUInt64 &&& Int64.toUInt64 63)).toInt64) &&& 6148914691236517205)).toUInt64 >>> ((nI 2).toInt64.toUInt64 &&& Int64.toUInt64 63)).toInt64) &&& 3689348814741910323)) + (((((x - (((x.toUInt64 >>> ((nI 1).toInt64.toUInt64 &&& Int64.toUInt64 63)).toInt64) &&& 6148914691236517205)) &&& 3689348814741910323) + ((((x - (((x.toUInt64 >>> ((nI 1).toInt64.toUInt64 &&& Int64.toUInt64 63)).toInt64) &&& 6148914691236517205)).toUInt64 >>> ((nI 2).toInt64.toUInt64 &&& Int64.toUInt64 63)).toInt64) &&& 3689348814741910323)).toUInt64 >>> ((nI 4).toInt64.toUInt64 &&& Int64.toUInt64 63)).toInt64)) &&& 1085102592571150095) + (((((((x - (((x.toUInt64 >>> ((nI 1).toInt64.toUInt64 &&& Int64.toUInt64 63)).toInt64) &&& 6148914691236517205)) &&& 3689348814741910323) + ((((x - (((x.toUInt64 >>> ((nI 1).toInt64.toUInt64 &&& Int64.toUInt64 63)).toInt64) &&& 6148914691236517205)).toUInt64 >>> ((nI 2).toInt64.toUInt64 &&& Int64.toUInt64 63)).toInt64) &&& 3689348814741910323)) + (((((x - (((x.toUInt64 >>> ((nI 1).toInt64.toUInt64 &&& Int64.toUInt64 63)).toInt64) &&& 6148914691236517205)) &&& 3689348814741910323) + ((((x - (((x.toUInt64 >>> ((nI 1).toInt64.toUInt64 &&& Int64.toUInt64 63)).toInt64) &&& 6148914691236517205)).toUInt64 >>> ((nI 2).toInt64.toUInt64 &&& Int64.toUInt64 63)).toInt64) &&& 3689348814741910323)).toUInt64 >>> ((nI 4).toInt64.toUInt64 &&& Int64.toUInt64 63)).toInt64)) &&& 1085102592571150095).toUInt64 >>> ((nI 8).toInt64.toUInt64 &&& Int64.toUInt64 63)).toInt64)).toUInt64 >>> ((nI 16).toInt64.toUInt64 &&& Int64.toUInt64 63)).toInt64)).toUInt64 >>> ((nI 32).toInt64.toUInt64 &&& Int64.toUInt64 63)).toInt64)))]) hx hb dJ13_bitCount_95d88_54 rfl hl (by decide) rfl (fun ls hl => ?_)
  refine lv_lload_n hx hb dJ13_bitCount_95d88_55 rfl (lv_at hl 0 rfl) ?_
  refine lv_l2i (v := ((((((((x - (((x.toUInt64 >>> ((nI 1).toInt64.toUInt64 &&& Int64.toUInt64 63)).toInt64) &&& 6148914691236517205)) &&& 3689348814741910323) + ((((x - (((x.toUInt64 >>> ((nI 1).toInt64.toUInt64 &&& Int64.toUInt64 63)).toInt64) &&& 6148914691236517205)).toUInt64 >>> ((nI 2).toInt64.toUInt64 &&& Int64.toUInt64 63)).toInt64) &&& 3689348814741910323)) + (((((x - (((x.toUInt64 >>> ((nI 1).toInt64.toUInt64 &&& Int64.toUInt64 63)).toInt64) &&& 6148914691236517205)) &&& 3689348814741910323) + ((((x - (((x.toUInt64 >>> ((nI 1).toInt64.toUInt64 &&& Int64.toUInt64 63)).toInt64) &&& 6148914691236517205)).toUInt64 >>> ((nI 2).toInt64.toUInt64 &&& Int64.toUInt64 63)).toInt64) &&& 3689348814741910323)).toUInt64 >>> ((nI 4).toInt64.toUInt64 &&& Int64.toUInt64 63)).toInt64)) &&& 1085102592571150095) + (((((((x - (((x.toUInt64 >>> ((nI 1).toInt64.toUInt64 &&& Int64.toUInt64 63)).toInt64) &&& 6148914691236517205)) &&& 3689348814741910323) + ((((x - (((x.toUInt64 >>> ((nI 1).toInt64.toUInt64 &&& Int64.toUInt64 63)).toInt64) &&& 6148914691236517205)).toUInt64 >>> ((nI 2).toInt64.toUInt64 &&& Int64.toUInt64 63)).toInt64) &&& 3689348814741910323)) + (((((x - (((x.toUInt64 >>> ((nI 1).toInt64.toUInt64 &&& Int64.toUInt64 63)).toInt64) &&& 6148914691236517205)) &&& 3689348814741910323) + ((((x - (((x.toUInt64 >>> ((nI 1).toInt64.toUInt64 &&& Int64.toUInt64 63)).toInt64) &&& 6148914691236517205)).toUInt64 >>> ((nI 2).toInt64.toUInt64 &&& Int64.toUInt64 63)).toInt64) &&& 3689348814741910323)).toUInt64 >>> ((nI 4).toInt64.toUInt64 &&& Int64.toUInt64 63)).toInt64)) &&& 1085102592571150095).toUInt64 >>> ((nI 8).toInt64.toUInt64 &&& Int64.toUInt64 63)).toInt64)) + ((((((((x - (((x.toUInt64 >>> ((nI 1).toInt64.toUInt64 &&& Int64.toUInt64 63)).toInt64) &&& 6148914691236517205)) &&& 3689348814741910323) + ((((x - (((x.toUInt64 >>> ((nI 1).toInt64.toUInt64 &&& Int64.toUInt64 63)).toInt64) &&& 6148914691236517205)).toUInt64 >>> ((nI 2).toInt64.toUInt64 &&& Int64.toUInt64 63)).toInt64) &&& 3689348814741910323)) + (((((x - (((x.toUInt64 >>> ((nI 1).toInt64.toUInt64 &&& Int64.toUInt64 63)).toInt64) &&& 6148914691236517205)) &&& 3689348814741910323) + ((((x - (((x.toUInt64 >>> ((nI 1).toInt64.toUInt64 &&& Int64.toUInt64 63)).toInt64) &&& 6148914691236517205)).toUInt64 >>> ((nI 2).toInt64.toUInt64 &&& Int64.toUInt64 63)).toInt64) &&& 3689348814741910323)).toUInt64 >>> ((nI 4).toInt64.toUInt64 &&& Int64.toUInt64 63)).toInt64)) &&& 1085102592571150095) + (((((((x - (((x.toUInt64 >>> ((nI 1).toInt64.toUInt64 &&& Int64.toUInt64 63)).toInt64) &&& 6148914691236517205)) &&& 3689348814741910323) + ((((x - (((x.toUInt64 >>> ((nI 1).toInt64.toUInt64 &&& Int64.toUInt64 63)).toInt64) &&& 6148914691236517205)).toUInt64 >>> ((nI 2).toInt64.toUInt64 &&& Int64.toUInt64 63)).toInt64) &&& 3689348814741910323)) + (((((x - (((x.toUInt64 >>> ((nI 1).toInt64.toUInt64 &&& Int64.toUInt64 63)).toInt64) &&& 6148914691236517205)) &&& 3689348814741910323) + ((((x - (((x.toUInt64 >>> ((nI 1).toInt64.toUInt64 &&& Int64.toUInt64 63)).toInt64) &&& 6148914691236517205)).toUInt64 >>> ((nI 2).toInt64.toUInt64 &&& Int64.toUInt64 63)).toInt64) &&& 3689348814741910323)).toUInt64 >>> ((nI 4).toInt64.toUInt64 &&& Int64.toUInt64 63)).toInt64)) &&& 1085102592571150095).toUInt64 >>> ((nI 8).toInt64.toUInt64 &&& Int64.toUInt64 63)).toInt64)).toUInt64 >>> ((nI 16).toInt64.toUInt64 &&& Int64.toUInt64 63)).toInt64)) + (((((((((x - (((x.toUInt64 >>> ((nI 1).toInt64.toUInt64 &&& Int64.toUInt64 63)).toInt64) &&& 6148914691236517205)) &&& 3689348814741910323) + ((((x - (((x.toUInt64 >>> ((nI 1).toInt64.toUInt64 &&& Int64.toUInt64 63)).toInt64) &&& 6148914691236517205)).toUInt64 >>> ((nI 2).toInt64.toUInt64 &&& Int64.toUInt64 63)).toInt64) &&& 3689348814741910323)) + (((((x - (((x.toUInt64 >>> ((nI 1).toInt64.toUInt64 &&& Int64.toUInt64 63)).toInt64) &&& 6148914691236517205)) &&& 3689348814741910323) + ((((x - (((x.toUInt64 >>> ((nI 1).toInt64.toUInt64 &&& Int64.toUInt64 63)).toInt64) &&& 6148914691236517205)).toUInt64 >>> ((nI 2).toInt64.toUInt64 &&& Int64.toUInt64 63)).toInt64) &&& 3689348814741910323)).toUInt64 >>> ((nI 4).toInt64.toUInt64 &&& Int64.toUInt64 63)).toInt64)) &&& 1085102592571150095) + (((((((x - (((x.toUInt64 >>> ((nI 1).toInt64.toUInt64 &&& Int64.toUInt64 63)).toInt64) &&& 6148914691236517205)) &&& 3689348814741910323) + ((((x - (((x.toUInt64 >>> ((nI 1).toInt64.toUInt64 &&& Int64.toUInt64 63)).toInt64) &&& 6148914691236517205)).toUInt64 >>> ((nI 2).toInt64.toUInt64 &&& Int64.toUInt64 63)).toInt64) &&& 3689348814741910323)) + (((((x - (((x.toUInt64 >>> ((nI 1).toInt64.toUInt64 &&& Int64.toUInt64 63)).toInt64) &&& 6148914691236517205)) &&& 3689348814741910323) + ((((x - (((x.toUInt64 >>> ((nI 1).toInt64.toUInt64 &&& Int64.toUInt64 63)).toInt64) &&& 6148914691236517205)).toUInt64 >>> ((nI 2).toInt64.toUInt64 &&& Int64.toUInt64 63)).toInt64) &&& 3689348814741910323)).toUInt64 >>> ((nI 4).toInt64.toUInt64 &&& Int64.toUInt64 63)).toInt64)) &&& 1085102592571150095).toUInt64 >>> ((nI 8).toInt64.toUInt64 &&& Int64.toUInt64 63)).toInt64)) + ((((((((x - (((x.toUInt64 >>> ((nI 1).toInt64.toUInt64 &&& Int64.toUInt64 63)).toInt64) &&& 6148914691236517205)) &&& 3689348814741910323) + ((((x - (((x.toUInt64 >>> ((nI 1).toInt64.toUInt64 &&& Int64.toUInt64 63)).toInt64) &&& 6148914691236517205)).toUInt64 >>> ((nI 2).toInt64.toUInt64 &&& Int64.toUInt64 63)).toInt64) &&& 3689348814741910323)) + (((((x - (((x.toUInt64 >>> ((nI 1).toInt64.toUInt64 &&& Int64.toUInt64 63)).toInt64) &&& 6148914691236517205)) &&& 3689348814741910323) + ((((x - (((x.toUInt64 >>> ((nI 1).toInt64.toUInt64 &&& Int64.toUInt64 63)).toInt64) &&& 6148914691236517205)).toUInt64 >>> ((nI 2).toInt64.toUInt64 &&& Int64.toUInt64 63)).toInt64) &&& 3689348814741910323)).toUInt64 >>> ((nI 4).toInt64.toUInt64 &&& Int64.toUInt64 63)).toInt64)) &&& 1085102592571150095) + (((((((x - (((x.toUInt64 >>> ((nI 1).toInt64.toUInt64 &&& Int64.toUInt64 63)).toInt64) &&& 6148914691236517205)) &&& 3689348814741910323) + ((((x - (((x.toUInt64 >>> ((nI 1).toInt64.toUInt64 &&& Int64.toUInt64 63)).toInt64) &&& 6148914691236517205)).toUInt64 >>> ((nI 2).toInt64.toUInt64 &&& Int64.toUInt64 63)).toInt64) &&& 3689348814741910323)) + (((((x - (((x.toUInt64 >>> ((nI 1).toInt64.toUInt64 &&& Int64.toUInt64 63)).toInt64) &&& 6148914691236517205)) &&& 3689348814741910323) + ((((x - (((x.toUInt64 >>> ((nI 1).toInt64.toUInt64 &&& Int64.toUInt64 63)).toInt64) &&& 6148914691236517205)).toUInt64 >>> ((nI 2).toInt64.toUInt64 &&& Int64.toUInt64 63)).toInt64) &&& 3689348814741910323)).toUInt64 >>> ((nI 4).toInt64.toUInt64 &&& Int64.toUInt64 63)).toInt64)) &&& 1085102592571150095).toUInt64 >>> ((nI 8).toInt64.toUInt64 &&& Int64.toUInt64 63)).toInt64)).toUInt64 >>> ((nI 16).toInt64.toUInt64 &&& Int64.toUInt64 63)).toInt64)).toUInt64 >>> ((nI 32).toInt64.toUInt64 &&& Int64.toUInt64 63)).toInt64)).toInt32) hx hb dJ13_bitCount_95d88_56 rfl ?_
  refine lv_bipush (v := nI 127) hx hb dJ13_bitCount_95d88_57 (by decide) ?_
  refine lv_iand hx hb dJ13_bitCount_95d88_59 ?_
  exact W.iret (v := (((((((((x - (((x.toUInt64 >>> ((nI 1).toInt64.toUInt64 &&& Int64.toUInt64 63)).toInt64) &&& 6148914691236517205)) &&& 3689348814741910323) + ((((x - (((x.toUInt64 >>> ((nI 1).toInt64.toUInt64 &&& Int64.toUInt64 63)).toInt64) &&& 6148914691236517205)).toUInt64 >>> ((nI 2).toInt64.toUInt64 &&& Int64.toUInt64 63)).toInt64) &&& 3689348814741910323)) + (((((x - (((x.toUInt64 >>> ((nI 1).toInt64.toUInt64 &&& Int64.toUInt64 63)).toInt64) &&& 6148914691236517205)) &&& 3689348814741910323) + ((((x - (((x.toUInt64 >>> ((nI 1).toInt64.toUInt64 &&& Int64.toUInt64 63)).toInt64) &&& 6148914691236517205)).toUInt64 >>> ((nI 2).toInt64.toUInt64 &&& Int64.toUInt64 63)).toInt64) &&& 3689348814741910323)).toUInt64 >>> ((nI 4).toInt64.toUInt64 &&& Int64.toUInt64 63)).toInt64)) &&& 1085102592571150095) + (((((((x - (((x.toUInt64 >>> ((nI 1).toInt64.toUInt64 &&& Int64.toUInt64 63)).toInt64) &&& 6148914691236517205)) &&& 3689348814741910323) + ((((x - (((x.toUInt64 >>> ((nI 1).toInt64.toUInt64 &&& Int64.toUInt64 63)).toInt64) &&& 6148914691236517205)).toUInt64 >>> ((nI 2).toInt64.toUInt64 &&& Int64.toUInt64 63)).toInt64) &&& 3689348814741910323)) + (((((x - (((x.toUInt64 >>> ((nI 1).toInt64.toUInt64 &&& Int64.toUInt64 63)).toInt64) &&& 6148914691236517205)) &&& 3689348814741910323) + ((((x - (((x.toUInt64 >>> ((nI 1).toInt64.toUInt64 &&& Int64.toUInt64 63)).toInt64) &&& 6148914691236517205)).toUInt64 >>> ((nI 2).toInt64.toUInt64 &&& Int64.toUInt64 63)).toInt64) &&& 3689348814741910323)).toUInt64 >>> ((nI 4).toInt64.toUInt64 &&& Int64.toUInt64 63)).toInt64)) &&& 1085102592571150095).toUInt64 >>> ((nI 8).toInt64.toUInt64 &&& Int64.toUInt64 63)).toInt64)) + ((((((((x - (((x.toUInt64 >>> ((nI 1).toInt64.toUInt64 &&& Int64.toUInt64 63)).toInt64) &&& 6148914691236517205)) &&& 3689348814741910323) + ((((x - (((x.toUInt64 >>> ((nI 1).toInt64.toUInt64 &&& Int64.toUInt64 63)).toInt64) &&& 6148914691236517205)).toUInt64 >>> ((nI 2).toInt64.toUInt64 &&& Int64.toUInt64 63)).toInt64) &&& 3689348814741910323)) + (((((x - (((x.toUInt64 >>> ((nI 1).toInt64.toUInt64 &&& Int64.toUInt64 63)).toInt64) &&& 6148914691236517205)) &&& 3689348814741910323) + ((((x - (((x.toUInt64 >>> ((nI 1).toInt64.toUInt64 &&& Int64.toUInt64 63)).toInt64) &&& 6148914691236517205)).toUInt64 >>> ((nI 2).toInt64.toUInt64 &&& Int64.toUInt64 63)).toInt64) &&& 3689348814741910323)).toUInt64 >>> ((nI 4).toInt64.toUInt64 &&& Int64.toUInt64 63)).toInt64)) &&& 1085102592571150095) + (((((((x - (((x.toUInt64 >>> ((nI 1).toInt64.toUInt64 &&& Int64.toUInt64 63)).toInt64) &&& 6148914691236517205)) &&& 3689348814741910323) + ((((x - (((x.toUInt64 >>> ((nI 1).toInt64.toUInt64 &&& Int64.toUInt64 63)).toInt64) &&& 6148914691236517205)).toUInt64 >>> ((nI 2).toInt64.toUInt64 &&& Int64.toUInt64 63)).toInt64) &&& 3689348814741910323)) + (((((x - (((x.toUInt64 >>> ((nI 1).toInt64.toUInt64 &&& Int64.toUInt64 63)).toInt64) &&& 6148914691236517205)) &&& 3689348814741910323) + ((((x - (((x.toUInt64 >>> ((nI 1).toInt64.toUInt64 &&& Int64.toUInt64 63)).toInt64) &&& 6148914691236517205)).toUInt64 >>> ((nI 2).toInt64.toUInt64 &&& Int64.toUInt64 63)).toInt64) &&& 3689348814741910323)).toUInt64 >>> ((nI 4).toInt64.toUInt64 &&& Int64.toUInt64 63)).toInt64)) &&& 1085102592571150095).toUInt64 >>> ((nI 8).toInt64.toUInt64 &&& Int64.toUInt64 63)).toInt64)).toUInt64 >>> ((nI 16).toInt64.toUInt64 &&& Int64.toUInt64 63)).toInt64)) + (((((((((x - (((x.toUInt64 >>> ((nI 1).toInt64.toUInt64 &&& Int64.toUInt64 63)).toInt64) &&& 6148914691236517205)) &&& 3689348814741910323) + ((((x - (((x.toUInt64 >>> ((nI 1).toInt64.toUInt64 &&& Int64.toUInt64 63)).toInt64) &&& 6148914691236517205)).toUInt64 >>> ((nI 2).toInt64.toUInt64 &&& Int64.toUInt64 63)).toInt64) &&& 3689348814741910323)) + (((((x - (((x.toUInt64 >>> ((nI 1).toInt64.toUInt64 &&& Int64.toUInt64 63)).toInt64) &&& 6148914691236517205)) &&& 3689348814741910323) + ((((x - (((x.toUInt64 >>> ((nI 1).toInt64.toUInt64 &&& Int64.toUInt64 63)).toInt64) &&& 6148914691236517205)).toUInt64 >>> ((nI 2).toInt64.toUInt64 &&& Int64.toUInt64 63)).toInt64) &&& 3689348814741910323)).toUInt64 >>> ((nI 4).toInt64.toUInt64 &&& Int64.toUInt64 63)).toInt64)) &&& 1085102592571150095) + (((((((x - (((x.toUInt64 >>> ((nI 1).toInt64.toUInt64 &&& Int64.toUInt64 63)).toInt64) &&& 6148914691236517205)) &&& 3689348814741910323) + ((((x - (((x.toUInt64 >>> ((nI 1).toInt64.toUInt64 &&& Int64.toUInt64 63)).toInt64) &&& 6148914691236517205)).toUInt64 >>> ((nI 2).toInt64.toUInt64 &&& Int64.toUInt64 63)).toInt64) &&& 3689348814741910323)) + (((((x - (((x.toUInt64 >>> ((nI 1).toInt64.toUInt64 &&& Int64.toUInt64 63)).toInt64) &&& 6148914691236517205)) &&& 3689348814741910323) + ((((x - (((x.toUInt64 >>> ((nI 1).toInt64.toUInt64 &&& Int64.toUInt64 63)).toInt64) &&& 6148914691236517205)).toUInt64 >>> ((nI 2).toInt64.toUInt64 &&& Int64.toUInt64 63)).toInt64) &&& 3689348814741910323)).toUInt64 >>> ((nI 4).toInt64.toUInt64 &&& Int64.toUInt64 63)).toInt64)) &&& 1085102592571150095).toUInt64 >>> ((nI 8).toInt64.toUInt64 &&& Int64.toUInt64 63)).toInt64)) + ((((((((x - (((x.toUInt64 >>> ((nI 1).toInt64.toUInt64 &&& Int64.toUInt64 63)).toInt64) &&& 6148914691236517205)) &&& 3689348814741910323) + ((((x - (((x.toUInt64 >>> ((nI 1).toInt64.toUInt64 &&& Int64.toUInt64 63)).toInt64) &&& 6148914691236517205)).toUInt64 >>> ((nI 2).toInt64.toUInt64 &&& Int64.toUInt64 63)).toInt64) &&& 3689348814741910323)) + (((((x - (((x.toUInt64 >>> ((nI 1).toInt64.toUInt64 &&& Int64.toUInt64 63)).toInt64) &&& 6148914691236517205)) &&& 3689348814741910323) + ((((x - (((x.toUInt64 >>> ((nI 1).toInt64.toUInt64 &&& Int64.toUInt64 63)).toInt64) &&& 6148914691236517205)).toUInt64 >>> ((nI 2).toInt64.toUInt64 &&& Int64.toUInt64 63)).toInt64) &&& 3689348814741910323)).toUInt64 >>> ((nI 4).toInt64.toUInt64 &&& Int64.toUInt64 63)).toInt64)) &&& 1085102592571150095) + (((((((x - (((x.toUInt64 >>> ((nI 1).toInt64.toUInt64 &&& Int64.toUInt64 63)).toInt64) &&& 6148914691236517205)) &&& 3689348814741910323) + ((((x - (((x.toUInt64 >>> ((nI 1).toInt64.toUInt64 &&& Int64.toUInt64 63)).toInt64) &&& 6148914691236517205)).toUInt64 >>> ((nI 2).toInt64.toUInt64 &&& Int64.toUInt64 63)).toInt64) &&& 3689348814741910323)) + (((((x - (((x.toUInt64 >>> ((nI 1).toInt64.toUInt64 &&& Int64.toUInt64 63)).toInt64) &&& 6148914691236517205)) &&& 3689348814741910323) + ((((x - (((x.toUInt64 >>> ((nI 1).toInt64.toUInt64 &&& Int64.toUInt64 63)).toInt64) &&& 6148914691236517205)).toUInt64 >>> ((nI 2).toInt64.toUInt64 &&& Int64.toUInt64 63)).toInt64) &&& 3689348814741910323)).toUInt64 >>> ((nI 4).toInt64.toUInt64 &&& Int64.toUInt64 63)).toInt64)) &&& 1085102592571150095).toUInt64 >>> ((nI 8).toInt64.toUInt64 &&& Int64.toUInt64 63)).toInt64)).toUInt64 >>> ((nI 16).toInt64.toUInt64 &&& Int64.toUInt64 63)).toInt64)).toUInt64 >>> ((nI 32).toInt64.toUInt64 &&& Int64.toUInt64 63)).toInt64)).toInt32) &&& (nI 127)) hx hb hr (fun t9 ht9 _ => ⟨_, rfl, rfl, ht9⟩) (fun _ h => by cases h) dJ13_bitCount_95d88_60

set_option maxHeartbeats 4000000 in
set_option maxRecDepth 100000 in
theorem k_X0_receive (l : Launch) (G : GT) (S : SS) (sz : Nat) {i : Nat} (hi : i < 2) {j : Nat} (hj : j < 2) (x : Int64) : Met l yX0_receive wsX0_receive ({ frames := 1, cells := 0, slots := 0, locals := 21 } : Room) (va_Pc [.ref (gA G (129 + 5 * i)), .ref (gA G (129 + 5 * j)), .long x] (fun U => U.heap.size = sz ∧ cP G S U)) (va_Qi (fun r S' => r = (rcvG i j x 12 0 (bc (x &&& (S.2 (129 + 5 * i) 0 ^^^ (-1)))) (s2 S (129 + 5 * i) 0 (S.2 (129 + 5 * i) 0 ||| x))).1 ∧ S' = (rcvG i j x 12 0 (bc (x &&& (S.2 (129 + 5 * i) 0 ^^^ (-1)))) (s2 S (129 + 5 * i) 0 (S.2 (129 + 5 * i) 0 ||| x))).2) (cB G) (gF G sz)) 0 0 (gF G sz) := by
  refine Met.ofW (cc := cX0_receive) (maxL := 8) (ret := (some .int)) (by decide) rfl ?_
  intro p e s m args below meth c s₁ B hml hv
  obtain ⟨rfl, hsz, hW, hK⟩ := hv
  subst hsz
  have hx := B.exec
  have hb := B.bytes
  have hr := B.returns
  have hts := atoms_spec (ws := wsX0_receive) B.pre
  have hown : s.vm.findClass RX0 = some m.cls := findClass_of_methodNamed B.named
  have hlocks := B.notSynchronized
  have hS : va_S (gF G s.heap.size) s.heap s.heap [] := va_S.rf
  have inX0 : ∀ w ∈ u_ws RX0 TX0 10, w ∈ wsX0_receive := by decide +kernel
  have hl := lv_entry ([.ref (gA G (129 + 5 * i)), .ref (gA G (129 + 5 * j)), .long x]) (n := 8) (Nat.le_of_ble_eq_true rfl)
  rw [lg_entry_eq]
  generalize (lg_sl ([.ref (gA G (129 + 5 * i)), .ref (gA G (129 + 5 * j)), .long x]) ++ List.replicate (8 - (lg_sl ([.ref (gA G (129 + 5 * i)), .ref (gA G (129 + 5 * j)), .long x])).length) Slot.unset).toArray = ls at hl ⊢
  have hl : lv_has ls 8 [(0, .ref (gA G (129 + 5 * i))), (1, .ref (gA G (129 + 5 * j))), (2, .long x)] := hl
  have LP : ∀ (n : Nat) (k : Nat) (a : Int32) (Q : SS) (H : Heap) (locs : List Loc), (cW G Q H) → (va_S (gF G s.heap.size) s.heap H locs) → (k + n = 12) → ∀ (ls : Array Slot), lv_has ls 8 [(0, .ref (gA G (129 + 5 * i))), (1, .ref (gA G (129 + 5 * j))), (2, .long x), (4, .int a), (5, .int (nI k))] → W p l e (headSpec wsX0_receive ({ frames := 1, cells := 0, slots := 0, locals := 21 } : Room)).room s m ([.ref (gA G (129 + 5 * i)), .ref (gA G (129 + 5 * j)), .long x] : List Value).toArray below meth c H locs 0 0 (MQ below (va_Qi (fun r S' => r = (rcvG i j x n k a Q).1 ∧ S' = (rcvG i j x n k a Q).2) (cB G) (gF G s.heap.size)) ([.ref (gA G (129 + 5 * i)), .ref (gA G (129 + 5 * j)), .long x] : List Value).toArray s 0 0 (gF G s.heap.size)) (F0 m 28 ls []) := by
    intro n
    induction n with
    | zero =>
      intro k a Q H locs hW hS h2 ls hl
      refine lv_iload hx hb dX0_receive_28 (lv_at hl 4 rfl) ?_
      refine lv_aload_n hx hb dX0_receive_30 rfl (lv_at hl 0 rfl) ?_
      refine va_get (D := gD G) (ci := 0) (v := .ref (gA G (130 + 5 * i))) (C := RX0) (T := TX0) (N := 10) hx hb hts inX0 hown hK.1 hW (129 + 5 * i) (cw_P (i := i) (by omega)) rfl 1 (by decide) (hts (.fieldLink RX0 15 "MarkedTrees$Peer" "certificates" "[J") (by decide +kernel)) (fun _ h9 => h9) rfl dX0_receive_31 ?_
      refine va_alen (v := nI 12) hx hb hK.1 hW (130 + 5 * i) 1 (cw_C (i := i) (by omega)) (ty := .long) rfl rfl dX0_receive_34 ?_
      refine nv_icmp_ge (tgt := 89) hx hb (by omega) (by omega) dX0_receive_35 (by decide) (fun c_35 => ?_) (fun c_35 => ?_)
      · refine lv_iload hx hb dX0_receive_89 (lv_at hl 3 rfl) ?_
        exact W.iret (v := a) hx hb hr (fun t9 ht9 _ => ⟨⟨_, Q, rfl, ⟨rfl, rfl⟩, (show cW G Q t9.heap by rw [ht9]; exact hW)⟩, hS.F ht9⟩) hS.2.2 dX0_receive_91
      · exact absurd c_35 (by omega)
    | succ n ih =>
      intro k a Q H locs hW hS h2 ls hl
      refine lv_iload hx hb dX0_receive_28 (lv_at hl 4 rfl) ?_
      refine lv_aload_n hx hb dX0_receive_30 rfl (lv_at hl 0 rfl) ?_
      refine va_get (D := gD G) (ci := 0) (v := .ref (gA G (130 + 5 * i))) (C := RX0) (T := TX0) (N := 10) hx hb hts inX0 hown hK.1 hW (129 + 5 * i) (cw_P (i := i) (by omega)) rfl 1 (by decide) (hts (.fieldLink RX0 15 "MarkedTrees$Peer" "certificates" "[J") (by decide +kernel)) (fun _ h9 => h9) rfl dX0_receive_31 ?_
      refine va_alen (v := nI 12) hx hb hK.1 hW (130 + 5 * i) 1 (cw_C (i := i) (by omega)) (ty := .long) rfl rfl dX0_receive_34 ?_
      refine nv_icmp_ge (tgt := 89) hx hb (by omega) (by omega) dX0_receive_35 (by decide) (fun c_35 => ?_) (fun c_35 => ?_)
      · exact absurd c_35 (by omega)
      · refine lv_aload_n hx hb dX0_receive_38 rfl (lv_at hl 1 rfl) ?_
        refine va_get (D := gD G) (ci := 0) (v := .ref (gA G (130 + 5 * j))) (C := RX0) (T := TX0) (N := 10) hx hb hts inX0 hown hK.1 hW (129 + 5 * j) (cw_P (i := j) (by omega)) rfl 1 (by decide) (hts (.fieldLink RX0 15 "MarkedTrees$Peer" "certificates" "[J") (by decide +kernel)) (fun _ h9 => h9) rfl dX0_receive_39 ?_
        refine lv_iload hx hb dX0_receive_42 (lv_at hl 4 rfl) ?_
        refine nv_lald hx hb hK.1 hW (130 + 5 * j) 1 (cw_C (i := j) (by omega)) rfl (i := k) (by omega) (by decide) dX0_receive_44 ?_
        refine lv_lload_n hx hb dX0_receive_45 rfl (lv_at hl 2 rfl) ?_
        refine lv_land hx hb dX0_receive_46 ?_
        refine lv_lstore (lv' := [(6, .long ((Q.2 (130 + 5 * j) k) &&& x)), (0, .ref (gA G (129 + 5 * i))), (1, .ref (gA G (129 + 5 * j))), (2, .long x), (4, .int a), (5, .int (nI k))]) hx hb dX0_receive_47 hl (by decide) rfl (fun ls hl => ?_)
        refine lv_iload hx hb dX0_receive_49 (lv_at hl 4 rfl) ?_
        refine lv_lload hx hb dX0_receive_51 (lv_at hl 0 rfl) ?_
        refine lv_aload_n hx hb dX0_receive_53 rfl (lv_at hl 1 rfl) ?_
        refine va_get (D := gD G) (ci := 0) (v := .ref (gA G (130 + 5 * i))) (C := RX0) (T := TX0) (N := 10) hx hb hts inX0 hown hK.1 hW (129 + 5 * i) (cw_P (i := i) (by omega)) rfl 1 (by decide) (hts (.fieldLink RX0 15 "MarkedTrees$Peer" "certificates" "[J") (by decide +kernel)) (fun _ h9 => h9) rfl dX0_receive_54 ?_
        refine lv_iload hx hb dX0_receive_57 (lv_at hl 5 rfl) ?_
        refine nv_lald hx hb hK.1 hW (130 + 5 * i) 1 (cw_C (i := i) (by omega)) rfl (i := k) (by omega) (by decide) dX0_receive_59 ?_
        refine lv_ldc2 (v := (-1)) hx hb hown (hts (.constantLong RX0 67 (-1)) (by decide +kernel)) dX0_receive_60 ?_
        refine lv_lxor hx hb dX0_receive_63 ?_
        refine lv_land hx hb dX0_receive_64 ?_
        refine pv_i (va_runS (As := [.long (((Q.2 (130 + 5 * j) k) &&& x) &&& ((Q.2 (130 + 5 * i) k) ^^^ (-1)))]) (rest := [.int a]) ⟨hx, hb, hml, hown, hts⟩ (k_J13_bitCount_95d88 l (((Q.2 (130 + 5 * j) k) &&& x) &&& ((Q.2 (130 + 5 * i) k) ^^^ (-1)))) (va_cwS 1 hts gX0_receive_J13_bitCount_95d88 rfl rfl rfl (by decide +kernel) ⟨Nat.le_of_ble_eq_true rfl, Nat.le_of_ble_eq_true rfl⟩) ⟨(fun _ _ _ _ h => h), fun U _ _ => ⟨rfl, trivial⟩⟩ rfl rfl hl.1 rfl (lv_room (Nat.le_of_ble_eq_true rfl)) dX0_receive_65 ⟨Nat.le_of_ble_eq_true rfl, Nat.le_of_ble_eq_true rfl⟩) (fun r_1 hr_1 => ?_)
        have hr_1 : r_1 = bc (((Q.2 (130 + 5 * j) k) &&& x) &&& ((Q.2 (130 + 5 * i) k) ^^^ (-1))) := hr_1
        subst hr_1
        refine lv_iadd hx hb dX0_receive_68 ?_
        refine lv_istore (lv' := [(4, .int (a + (bc (((Q.2 (130 + 5 * j) k) &&& x) &&& ((Q.2 (130 + 5 * i) k) ^^^ (-1)))))), (6, .long ((Q.2 (130 + 5 * j) k) &&& x)), (0, .ref (gA G (129 + 5 * i))), (1, .ref (gA G (129 + 5 * j))), (2, .long x), (5, .int (nI k))]) hx hb dX0_receive_69 hl (by decide) rfl (fun ls hl => ?_)
        refine lv_aload_n hx hb dX0_receive_71 rfl (lv_at hl 2 rfl) ?_
        refine va_get (D := gD G) (ci := 0) (v := .ref (gA G (130 + 5 * i))) (C := RX0) (T := TX0) (N := 10) hx hb hts inX0 hown hK.1 hW (129 + 5 * i) (cw_P (i := i) (by omega)) rfl 1 (by decide) (hts (.fieldLink RX0 15 "MarkedTrees$Peer" "certificates" "[J") (by decide +kernel)) (fun _ h9 => h9) rfl dX0_receive_72 ?_
        refine lv_iload hx hb dX0_receive_75 (lv_at hl 5 rfl) ?_
        refine lv_dup2_11 hx hb dX0_receive_77 rfl rfl ?_
        refine nv_lald hx hb hK.1 hW (130 + 5 * i) 1 (cw_C (i := i) (by omega)) rfl (i := k) (by omega) (by decide) dX0_receive_78 ?_
        refine lv_lload hx hb dX0_receive_79 (lv_at hl 1 rfl) ?_
        refine lv_lor hx hb dX0_receive_81 ?_
        refine nv_last hx hb hK.1 hW (wl_D hK.2.1) hS (130 + 5 * i) 1 (cw_C (i := i) (by omega)) rfl (i := k) (by omega) (by decide) dX0_receive_82 (fun H locs hW hS => ?_)
        have hW : cW G (s2 Q (130 + 5 * i) k ((Q.2 (130 + 5 * i) k) ||| ((Q.2 (130 + 5 * j) k) &&& x))) H := cp_C (by omega) hW
        obtain ⟨S_2, eS_2⟩ : ∃ z, z = s2 Q (130 + 5 * i) k ((Q.2 (130 + 5 * i) k) ||| ((Q.2 (130 + 5 * j) k) &&& x)) := ⟨_, rfl⟩
        rw [← eS_2] at hW
        refine lv_iinc (v := nI (k + 1)) (lv' := [(5, .int (nI (k + 1))), (4, .int (a + (bc (((Q.2 (130 + 5 * j) k) &&& x) &&& ((Q.2 (130 + 5 * i) k) ^^^ (-1)))))), (6, .long ((Q.2 (130 + 5 * j) k) &&& x)), (0, .ref (gA G (129 + 5 * i))), (1, .ref (gA G (129 + 5 * j))), (2, .long x)]) hx hb dX0_receive_83 hl (k := 5) rfl (nI_add k 1) (by decide) rfl (fun ls hl => ?_)
        refine lv_goto (tgt := 28) hx hb dX0_receive_86 (by decide) ?_
        have E : rcvG i j x (n + 1) k a Q = rcvG i j x n (k + 1) (a + (bc (((Q.2 (130 + 5 * j) k) &&& x) &&& ((Q.2 (130 + 5 * i) k) ^^^ (-1))))) S_2 := by subst_vars; rfl
        rw [E]
        exact ih (k + 1) _ S_2 H locs hW hS (by omega) ls (lv_sub hl [3, 4, 5, 1, 0] rfl)
  refine lv_lload_n hx hb dX0_receive_0 rfl (lv_at hl 2 rfl) ?_
  refine lv_aload_n hx hb dX0_receive_1 rfl (lv_at hl 0 rfl) ?_
  refine va_get (D := gD G) (ci := 0) (v := .long (S.2 (129 + 5 * i) 0)) (C := RX0) (T := TX0) (N := 10) hx hb hts inX0 hown hK.1 hW (129 + 5 * i) (cw_P (i := i) (by omega)) rfl 0 (by decide) (hts (.fieldLink RX0 9 "MarkedTrees$Peer" "held" "J") (by decide +kernel)) (fun _ h9 => h9) rfl dX0_receive_2 ?_
  refine lv_ldc2 (v := (-1)) hx hb hown (hts (.constantLong RX0 67 (-1)) (by decide +kernel)) dX0_receive_5 ?_
  refine lv_lxor hx hb dX0_receive_8 ?_
  refine lv_land hx hb dX0_receive_9 ?_
  refine pv_i (va_runS (As := [.long (x &&& ((S.2 (129 + 5 * i) 0) ^^^ (-1)))]) (rest := []) ⟨hx, hb, hml, hown, hts⟩ (k_J13_bitCount_95d88 l (x &&& ((S.2 (129 + 5 * i) 0) ^^^ (-1)))) (va_cwS 1 hts gX0_receive_J13_bitCount_95d88 rfl rfl rfl (by decide +kernel) ⟨Nat.le_of_ble_eq_true rfl, Nat.le_of_ble_eq_true rfl⟩) ⟨(fun _ _ _ _ h => h), fun U _ _ => ⟨rfl, trivial⟩⟩ rfl rfl hl.1 rfl (lv_room (Nat.le_of_ble_eq_true rfl)) dX0_receive_10 ⟨Nat.le_of_ble_eq_true rfl, Nat.le_of_ble_eq_true rfl⟩) (fun r_3 hr_3 => ?_)
  have hr_3 : r_3 = bc (x &&& ((S.2 (129 + 5 * i) 0) ^^^ (-1))) := hr_3
  subst hr_3
  refine lv_istore (lv' := [(4, .int (bc (x &&& ((S.2 (129 + 5 * i) 0) ^^^ (-1))))), (0, .ref (gA G (129 + 5 * i))), (1, .ref (gA G (129 + 5 * j))), (2, .long x)]) hx hb dX0_receive_13 hl (by decide) rfl (fun ls hl => ?_)
  refine lv_aload_n hx hb dX0_receive_15 rfl (lv_at hl 1 rfl) ?_
  refine lv_dup hx hb dX0_receive_16 rfl ?_
  refine va_get (D := gD G) (ci := 0) (v := .long (S.2 (129 + 5 * i) 0)) (C := RX0) (T := TX0) (N := 10) hx hb hts inX0 hown hK.1 hW (129 + 5 * i) (cw_P (i := i) (by omega)) rfl 0 (by decide) (hts (.fieldLink RX0 9 "MarkedTrees$Peer" "held" "J") (by decide +kernel)) (fun _ h9 => h9) rfl dX0_receive_17 ?_
  refine lv_lload_n hx hb dX0_receive_20 rfl (lv_at hl 3 rfl) ?_
  refine lv_lor hx hb dX0_receive_21 ?_
  refine va_put (D := gD G) (ci := 0) (v := .long ((S.2 (129 + 5 * i) 0) ||| x)) (ty := .long) (C := RX0) (T := TX0) (N := 10) hx hb hts inX0 tyX0 tyX0_ok nmX0 hown hK.1 hW (wl_D hK.2.1) hS (129 + 5 * i) (cw_P (i := i) (by omega)) rfl 0 (by decide) (hts (.fieldLink RX0 9 "MarkedTrees$Peer" "held" "J") (by decide +kernel)) (fun _ h9 => h9) rfl (by decide +kernel) rfl rfl (Nat.le_of_ble_eq_true rfl) dX0_receive_22 (fun H locs hW _ hS => ?_)
  have hW : cW G (s2 S (129 + 5 * i) 0 ((S.2 (129 + 5 * i) 0) ||| x)) H := cp_P_0 (by omega) hW
  obtain ⟨S_4, eS_4⟩ : ∃ z, z = s2 S (129 + 5 * i) 0 ((S.2 (129 + 5 * i) 0) ||| x) := ⟨_, rfl⟩
  rw [← eS_4] at hW
  refine lv_iconst (v := nI 0) hx hb dX0_receive_25 (by decide) ?_
  refine lv_istore (lv' := [(5, .int (nI 0)), (4, .int (bc (x &&& ((S.2 (129 + 5 * i) 0) ^^^ (-1))))), (0, .ref (gA G (129 + 5 * i))), (1, .ref (gA G (129 + 5 * j))), (2, .long x)]) hx hb dX0_receive_26 hl (by decide) rfl (fun ls hl => ?_)
  rw [← eS_4]
  exact LP 12 0 _ S_4 H locs hW hS (by omega) ls (lv_sub hl [2, 3, 4, 1, 0] rfl)
