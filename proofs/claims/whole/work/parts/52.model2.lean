set_option maxHeartbeats 4000000 in
set_option maxRecDepth 100000 in
theorem k_X3_equalTrees (l : Launch) (G : GT) (S : SS) {t u : Nat} (ht : t < 43) (hu : u < 43) : Met l yX3_equalTrees wsX3_equalTrees ({ frames := 2, cells := 0, slots := 0, locals := 44 } : Room) (va_Pc [.ref (gA G 0), .int (nI t), .int (nI u)] (mP G S)) (vp_Si (fun r => r = bI (eqT S t u))) 0 0 (fun _ => False) := by
  refine Met.ofW (cc := cX3_equalTrees) (maxL := 5) (ret := (some .boolean)) (by decide) rfl ?_
  intro p e s m args below meth c s₁ B hml hv
  obtain ⟨rfl, hW, hK⟩ := hv
  have hx := B.exec
  have hb := B.bytes
  have hr := B.returns
  have hts := atoms_spec (ws := wsX3_equalTrees) B.pre
  have hown : s.vm.findClass RX3 = some m.cls := findClass_of_methodNamed B.named
  have hlocks := B.notSynchronized
  have hS : va_S (gF G s.heap.size) s.heap s.heap [] := va_S.rf
  have inX3 : ∀ w ∈ u_ws RX3 TX3 22, w ∈ wsX3_equalTrees := by decide +kernel
  have hl := lv_entry ([.ref (gA G 0), .int (nI t), .int (nI u)]) (n := 5) (Nat.le_of_ble_eq_true rfl)
  rw [lg_entry_eq]
  generalize (lg_sl ([.ref (gA G 0), .int (nI t), .int (nI u)]) ++ List.replicate (5 - (lg_sl ([.ref (gA G 0), .int (nI t), .int (nI u)])).length) Slot.unset).toArray = ls at hl ⊢
  have hl : lv_has ls 5 [(0, .ref (gA G 0)), (1, .int (nI t)), (2, .int (nI u))] := hl
  have LP : ∀ (k : Nat) (e9 : Bool) (n : Nat), (1 ≤ n) → (n + k = 16) → ∀ (ls : Array Slot), lv_has ls 5 [(0, .ref (gA G 0)), (1, .int (nI t)), (2, .int (nI u)), (3, .int (bI e9)), (4, .int (nI n))] → W p l e (headSpec wsX3_equalTrees ({ frames := 2, cells := 0, slots := 0, locals := 44 } : Room)).room s m ([.ref (gA G 0), .int (nI t), .int (nI u)] : List Value).toArray below meth c s.heap [] 0 0 (MQ below (vp_Si (fun r => r = bI (eqG S t u k n e9))) ([.ref (gA G 0), .int (nI t), .int (nI u)] : List Value).toArray s 0 0 (fun _ => False)) (F0 m 24 ls []) := by
    intro k
    induction k with
    | zero =>
      intro e9 n h1 h2 ls hl
      refine lv_iload hx hb dX3_equalTrees_24 (lv_at hl 4 rfl) ?_
      refine lv_bipush (v := nI 16) hx hb dX3_equalTrees_26 (by decide) ?_
      refine nv_icmp_ge (tgt := 93) hx hb (by omega) (by omega) dX3_equalTrees_28 (by decide) (fun c_28 => ?_) (fun c_28 => ?_)
      · refine lv_iload_n hx hb dX3_equalTrees_93 rfl (lv_at hl 3 rfl) ?_
        exact W.zret (v := bI e9) hx hb hr (bI_nar _) (fun t9 ht9 _ => ⟨_, rfl, rfl, ht9⟩) (fun _ h => by cases h) dX3_equalTrees_94
      · exact absurd c_28 (by omega)
    | succ k ih =>
      intro e9 n h1 h2 ls hl
      refine lv_iload hx hb dX3_equalTrees_24 (lv_at hl 4 rfl) ?_
      refine lv_bipush (v := nI 16) hx hb dX3_equalTrees_26 (by decide) ?_
      refine nv_icmp_ge (tgt := 93) hx hb (by omega) (by omega) dX3_equalTrees_28 (by decide) (fun c_28 => ?_) (fun c_28 => ?_)
      · exact absurd c_28 (by omega)
      · refine lv_iload_n hx hb dX3_equalTrees_31 rfl (lv_at hl 3 rfl) ?_
        refine bv_if_eq (b := e9) (tgt := 93) hx hb dX3_equalTrees_32 (by decide) (fun c_32 => ?_) (fun c_32 => ?_)
        · refine lv_iload_n hx hb dX3_equalTrees_93 rfl (lv_at hl 3 rfl) ?_
          exact W.zret (v := bI e9) hx hb hr (bI_nar _) (fun t9 ht9 _ => ⟨_, rfl, (by rw [eqG, if_neg (ne_true_of_eq_false c_32), c_32]), ht9⟩) (fun _ h => by cases h) dX3_equalTrees_94
        · refine lv_aload_n hx hb dX3_equalTrees_35 rfl (lv_at hl 0 rfl) ?_
          refine lv_iload_n hx hb dX3_equalTrees_36 rfl (lv_at hl 1 rfl) ?_
          refine lv_iload hx hb dX3_equalTrees_37 (lv_at hl 4 rfl) ?_
          refine pv_i (va_runV (As := [.int (nI t), .int (nI n)]) (rest := []) ⟨hx, hb, hml, hown, hts⟩ (k_X3_isAlive l G S (t := t) (by omega) (nI n)) (cwV 2 hts gX3_equalTrees_X3_isAlive rfl rfl rfl (by decide +kernel) ⟨Nat.le_of_ble_eq_true rfl, Nat.le_of_ble_eq_true rfl⟩) ⟨mP_blind, m_recv hW hK, mP_at hW hK hS⟩ rfl rfl hl.1 rfl (lv_room (Nat.le_of_ble_eq_true rfl)) dX3_equalTrees_39 ⟨Nat.le_of_ble_eq_true rfl, Nat.le_of_ble_eq_true rfl⟩) (fun r_1 hr_1 => ?_)
          rw [mAl_nI S t (by omega)] at hr_1
          subst hr_1
          refine bv_if_eq (b := ti (S.1 4 t) n) (tgt := 87) hx hb dX3_equalTrees_42 (by decide) (fun c_42 => ?_) (fun c_42 => ?_)
          · refine lv_iinc (v := nI (n + 1)) (lv' := [(4, .int (nI (n + 1))), (0, .ref (gA G 0)), (1, .int (nI t)), (2, .int (nI u)), (3, .int (bI e9))]) hx hb dX3_equalTrees_87 hl (k := 4) rfl (nI_add n 1) (by decide) rfl (fun ls hl => ?_)
            refine lv_goto (tgt := 24) hx hb dX3_equalTrees_90 (by decide) ?_
            have E : eqG S t u (k + 1) n e9 = eqG S t u k (n + 1) e9 := by rw [eqG, if_pos c_32, if_neg (ne_true_of_eq_false c_42), c_32]
            rw [E]
            exact ih e9 (n + 1) (by omega) (by omega) ls (lv_sub hl [1, 2, 3, 4, 0] rfl)
          · refine lv_aload_n hx hb dX3_equalTrees_45 rfl (lv_at hl 0 rfl) ?_
            refine lv_iload_n hx hb dX3_equalTrees_46 rfl (lv_at hl 1 rfl) ?_
            refine lv_iload_n hx hb dX3_equalTrees_47 rfl (lv_at hl 2 rfl) ?_
            refine lv_iload hx hb dX3_equalTrees_48 (lv_at hl 4 rfl) ?_
            refine lv_iconst (v := nI 0) hx hb dX3_equalTrees_50 (by decide) ?_
            refine pv_i (va_runV (As := [.int (nI t), .int (nI u), .int (nI n), .int (nI 0)]) (rest := []) ⟨hx, hb, hml, hown, hts⟩ (k_X3_same l G S (t := t) (u := u) (n := n) (k := 0) (by omega) (by omega) (by omega) (by omega)) (cwV 4 hts gX3_equalTrees_X3_same rfl rfl rfl (by decide +kernel) ⟨Nat.le_of_ble_eq_true rfl, Nat.le_of_ble_eq_true rfl⟩) ⟨mP_blind, m_recv hW hK, mP_at hW hK hS⟩ rfl rfl hl.1 rfl (lv_room (Nat.le_of_ble_eq_true rfl)) dX3_equalTrees_51 ⟨Nat.le_of_ble_eq_true rfl, Nat.le_of_ble_eq_true rfl⟩) (fun r_2 hr_2 => ?_)
            have hr_2 : r_2 = bI (sameM S t u n 0) := hr_2
            subst hr_2
            refine bv_if_eq (b := sameM S t u n 0) (tgt := 85) hx hb dX3_equalTrees_54 (by decide) (fun c_54 => ?_) (fun c_54 => ?_)
            · refine lv_iconst (v := nI 0) hx hb dX3_equalTrees_85 (by decide) ?_
              refine lv_istore_n (lv' := [(3, .int (nI 0)), (0, .ref (gA G 0)), (1, .int (nI t)), (2, .int (nI u)), (4, .int (nI n))]) hx hb dX3_equalTrees_86 rfl hl (by decide) rfl (fun ls hl => ?_)
              refine lv_iinc (v := nI (n + 1)) (lv' := [(4, .int (nI (n + 1))), (3, .int (nI 0)), (0, .ref (gA G 0)), (1, .int (nI t)), (2, .int (nI u))]) hx hb dX3_equalTrees_87 hl (k := 4) rfl (nI_add n 1) (by decide) rfl (fun ls hl => ?_)
              refine lv_goto (tgt := 24) hx hb dX3_equalTrees_90 (by decide) ?_
              have E : eqG S t u (k + 1) n e9 = eqG S t u k (n + 1) false := by rw [eqG, if_pos c_32, if_pos c_42]; simp [c_54]
              rw [E]
              have hl : lv_has ls 5 [(4, .int (nI (n + 1))), (3, .int (bI false)), (0, .ref (gA G 0)), (1, .int (nI t)), (2, .int (nI u))] := hl
              exact ih false (n + 1) (by omega) (by omega) ls (lv_sub hl [2, 3, 4, 1, 0] rfl)
            · refine lv_aload_n hx hb dX3_equalTrees_57 rfl (lv_at hl 0 rfl) ?_
              refine lv_iload_n hx hb dX3_equalTrees_58 rfl (lv_at hl 1 rfl) ?_
              refine lv_iload_n hx hb dX3_equalTrees_59 rfl (lv_at hl 2 rfl) ?_
              refine lv_iload hx hb dX3_equalTrees_60 (lv_at hl 4 rfl) ?_
              refine lv_iconst (v := nI 1) hx hb dX3_equalTrees_62 (by decide) ?_
              refine pv_i (va_runV (As := [.int (nI t), .int (nI u), .int (nI n), .int (nI 1)]) (rest := []) ⟨hx, hb, hml, hown, hts⟩ (k_X3_same l G S (t := t) (u := u) (n := n) (k := 1) (by omega) (by omega) (by omega) (by omega)) (cwV 4 hts gX3_equalTrees_X3_same rfl rfl rfl (by decide +kernel) ⟨Nat.le_of_ble_eq_true rfl, Nat.le_of_ble_eq_true rfl⟩) ⟨mP_blind, m_recv hW hK, mP_at hW hK hS⟩ rfl rfl hl.1 rfl (lv_room (Nat.le_of_ble_eq_true rfl)) dX3_equalTrees_63 ⟨Nat.le_of_ble_eq_true rfl, Nat.le_of_ble_eq_true rfl⟩) (fun r_3 hr_3 => ?_)
              have hr_3 : r_3 = bI (sameM S t u n 1) := hr_3
              subst hr_3
              refine bv_if_eq (b := sameM S t u n 1) (tgt := 85) hx hb dX3_equalTrees_66 (by decide) (fun c_66 => ?_) (fun c_66 => ?_)
              · refine lv_iconst (v := nI 0) hx hb dX3_equalTrees_85 (by decide) ?_
                refine lv_istore_n (lv' := [(3, .int (nI 0)), (0, .ref (gA G 0)), (1, .int (nI t)), (2, .int (nI u)), (4, .int (nI n))]) hx hb dX3_equalTrees_86 rfl hl (by decide) rfl (fun ls hl => ?_)
                refine lv_iinc (v := nI (n + 1)) (lv' := [(4, .int (nI (n + 1))), (3, .int (nI 0)), (0, .ref (gA G 0)), (1, .int (nI t)), (2, .int (nI u))]) hx hb dX3_equalTrees_87 hl (k := 4) rfl (nI_add n 1) (by decide) rfl (fun ls hl => ?_)
                refine lv_goto (tgt := 24) hx hb dX3_equalTrees_90 (by decide) ?_
                have E : eqG S t u (k + 1) n e9 = eqG S t u k (n + 1) false := by rw [eqG, if_pos c_32, if_pos c_42]; simp [c_54, c_66]
                rw [E]
                have hl : lv_has ls 5 [(4, .int (nI (n + 1))), (3, .int (bI false)), (0, .ref (gA G 0)), (1, .int (nI t)), (2, .int (nI u))] := hl
                exact ih false (n + 1) (by omega) (by omega) ls (lv_sub hl [2, 3, 4, 1, 0] rfl)
              · refine lv_aload_n hx hb dX3_equalTrees_69 rfl (lv_at hl 0 rfl) ?_
                refine lv_iload_n hx hb dX3_equalTrees_70 rfl (lv_at hl 1 rfl) ?_
                refine lv_iload_n hx hb dX3_equalTrees_71 rfl (lv_at hl 2 rfl) ?_
                refine lv_iload hx hb dX3_equalTrees_72 (lv_at hl 4 rfl) ?_
                refine lv_iconst (v := nI 2) hx hb dX3_equalTrees_74 (by decide) ?_
                refine pv_i (va_runV (As := [.int (nI t), .int (nI u), .int (nI n), .int (nI 2)]) (rest := []) ⟨hx, hb, hml, hown, hts⟩ (k_X3_same l G S (t := t) (u := u) (n := n) (k := 2) (by omega) (by omega) (by omega) (by omega)) (cwV 4 hts gX3_equalTrees_X3_same rfl rfl rfl (by decide +kernel) ⟨Nat.le_of_ble_eq_true rfl, Nat.le_of_ble_eq_true rfl⟩) ⟨mP_blind, m_recv hW hK, mP_at hW hK hS⟩ rfl rfl hl.1 rfl (lv_room (Nat.le_of_ble_eq_true rfl)) dX3_equalTrees_75 ⟨Nat.le_of_ble_eq_true rfl, Nat.le_of_ble_eq_true rfl⟩) (fun r_4 hr_4 => ?_)
                have hr_4 : r_4 = bI (sameM S t u n 2) := hr_4
                subst hr_4
                refine bv_if_eq (b := sameM S t u n 2) (tgt := 85) hx hb dX3_equalTrees_78 (by decide) (fun c_78 => ?_) (fun c_78 => ?_)
                · refine lv_iconst (v := nI 0) hx hb dX3_equalTrees_85 (by decide) ?_
                  refine lv_istore_n (lv' := [(3, .int (nI 0)), (0, .ref (gA G 0)), (1, .int (nI t)), (2, .int (nI u)), (4, .int (nI n))]) hx hb dX3_equalTrees_86 rfl hl (by decide) rfl (fun ls hl => ?_)
                  refine lv_iinc (v := nI (n + 1)) (lv' := [(4, .int (nI (n + 1))), (3, .int (nI 0)), (0, .ref (gA G 0)), (1, .int (nI t)), (2, .int (nI u))]) hx hb dX3_equalTrees_87 hl (k := 4) rfl (nI_add n 1) (by decide) rfl (fun ls hl => ?_)
                  refine lv_goto (tgt := 24) hx hb dX3_equalTrees_90 (by decide) ?_
                  have E : eqG S t u (k + 1) n e9 = eqG S t u k (n + 1) false := by rw [eqG, if_pos c_32, if_pos c_42]; simp [c_54, c_66, c_78]
                  rw [E]
                  have hl : lv_has ls 5 [(4, .int (nI (n + 1))), (3, .int (bI false)), (0, .ref (gA G 0)), (1, .int (nI t)), (2, .int (nI u))] := hl
                  exact ih false (n + 1) (by omega) (by omega) ls (lv_sub hl [2, 3, 4, 1, 0] rfl)
                · refine lv_iconst (v := nI 1) hx hb dX3_equalTrees_81 (by decide) ?_
                  refine lv_goto (tgt := 86) hx hb dX3_equalTrees_82 (by decide) ?_
                  refine lv_istore_n (lv' := [(3, .int (nI 1)), (0, .ref (gA G 0)), (1, .int (nI t)), (2, .int (nI u)), (4, .int (nI n))]) hx hb dX3_equalTrees_86 rfl hl (by decide) rfl (fun ls hl => ?_)
                  refine lv_iinc (v := nI (n + 1)) (lv' := [(4, .int (nI (n + 1))), (3, .int (nI 1)), (0, .ref (gA G 0)), (1, .int (nI t)), (2, .int (nI u))]) hx hb dX3_equalTrees_87 hl (k := 4) rfl (nI_add n 1) (by decide) rfl (fun ls hl => ?_)
                  refine lv_goto (tgt := 24) hx hb dX3_equalTrees_90 (by decide) ?_
                  have E : eqG S t u (k + 1) n e9 = eqG S t u k (n + 1) true := by rw [eqG, if_pos c_32, if_pos c_42]; simp [c_54, c_66, c_78]
                  rw [E]
                  have hl : lv_has ls 5 [(4, .int (nI (n + 1))), (3, .int (bI true)), (0, .ref (gA G 0)), (1, .int (nI t)), (2, .int (nI u))] := hl
                  exact ih true (n + 1) (by omega) (by omega) ls (lv_sub hl [2, 3, 4, 1, 0] rfl)
  refine lv_aload_n hx hb dX3_equalTrees_0 rfl (lv_at hl 0 rfl) ?_
  refine va_get (D := gD G) (ci := 3) (v := .ref (gA G 4)) (C := RX3) (T := TX3) (N := 22) hx hb hts inX3 hown hK.1 hW 0 mw_0 rfl 6 (by decide) (hts (.fieldLink RX3 28 "MarkedTreesModel" "alive" "[I") (by decide +kernel)) (fun _ h9 => h9) rfl dX3_equalTrees_1 ?_
  refine lv_iload_n hx hb dX3_equalTrees_4 rfl (lv_at hl 1 rfl) ?_
  refine nv_iald hx hb hK.1 hW 4 0 mw_4 rfl (i := t) (by omega) (by decide) dX3_equalTrees_5 ?_
  refine lv_aload_n hx hb dX3_equalTrees_6 rfl (lv_at hl 0 rfl) ?_
  refine va_get (D := gD G) (ci := 3) (v := .ref (gA G 4)) (C := RX3) (T := TX3) (N := 22) hx hb hts inX3 hown hK.1 hW 0 mw_0 rfl 6 (by decide) (hts (.fieldLink RX3 28 "MarkedTreesModel" "alive" "[I") (by decide +kernel)) (fun _ h9 => h9) rfl dX3_equalTrees_7 ?_
  refine lv_iload_n hx hb dX3_equalTrees_10 rfl (lv_at hl 2 rfl) ?_
  refine nv_iald hx hb hK.1 hW 4 0 mw_4 rfl (i := u) (by omega) (by decide) dX3_equalTrees_11 ?_
  refine lv_icmp_ne (tgt := 19) hx hb dX3_equalTrees_12 (by decide) (fun c_12 => ?_) (fun c_12 => ?_)
  · refine lv_iconst (v := nI 0) hx hb dX3_equalTrees_19 (by decide) ?_
    refine lv_istore_n (lv' := [(3, .int (nI 0)), (0, .ref (gA G 0)), (1, .int (nI t)), (2, .int (nI u))]) hx hb dX3_equalTrees_20 rfl hl (by decide) rfl (fun ls hl => ?_)
    refine lv_iconst (v := nI 1) hx hb dX3_equalTrees_21 (by decide) ?_
    refine lv_istore (lv' := [(4, .int (nI 1)), (3, .int (nI 0)), (0, .ref (gA G 0)), (1, .int (nI t)), (2, .int (nI u))]) hx hb dX3_equalTrees_22 hl (by decide) rfl (fun ls hl => ?_)
    have E : eqT S t u = eqG S t u 15 1 false := by rw [eqT, decide_eq_false c_12]
    rw [E]
    have hl : lv_has ls 5 [(4, .int (nI 1)), (3, .int (bI false)), (0, .ref (gA G 0)), (1, .int (nI t)), (2, .int (nI u))] := hl
    exact LP 15 false 1 (by omega) (by omega) ls (lv_sub hl [2, 3, 4, 1, 0] rfl)
  · refine lv_iconst (v := nI 1) hx hb dX3_equalTrees_15 (by decide) ?_
    refine lv_goto (tgt := 20) hx hb dX3_equalTrees_16 (by decide) ?_
    refine lv_istore_n (lv' := [(3, .int (nI 1)), (0, .ref (gA G 0)), (1, .int (nI t)), (2, .int (nI u))]) hx hb dX3_equalTrees_20 rfl hl (by decide) rfl (fun ls hl => ?_)
    refine lv_iconst (v := nI 1) hx hb dX3_equalTrees_21 (by decide) ?_
    refine lv_istore (lv' := [(4, .int (nI 1)), (3, .int (nI 1)), (0, .ref (gA G 0)), (1, .int (nI t)), (2, .int (nI u))]) hx hb dX3_equalTrees_22 hl (by decide) rfl (fun ls hl => ?_)
    have E : eqT S t u = eqG S t u 15 1 true := by rw [eqT, decide_eq_true c_12]
    rw [E]
    have hl : lv_has ls 5 [(4, .int (nI 1)), (3, .int (bI true)), (0, .ref (gA G 0)), (1, .int (nI t)), (2, .int (nI u))] := hl
    exact LP 15 true 1 (by omega) (by omega) ls (lv_sub hl [2, 3, 4, 1, 0] rfl)

set_option maxHeartbeats 4000000 in
set_option maxRecDepth 100000 in
theorem k_X3_nodeAt (l : Launch) (G : GT) (S : SS) {t : Nat} (ht : t < 43) (x y z : Int32) : Met l yX3_nodeAt wsX3_nodeAt ({ frames := 2, cells := 0, slots := 0, locals := 44 } : Room) (va_Pc [.ref (gA G 0), .int (nI t), .int x, .int y, .int z] (mP G S)) (vp_Si (fun r => r = naG S t x y z 15 (-1))) 0 0 (fun _ => False) := by
  refine Met.ofW (cc := cX3_nodeAt) (maxL := 7) (ret := (some .int)) (by decide) rfl ?_
  intro p e s m args below meth c s₁ B hml hv
  obtain ⟨rfl, hW, hK⟩ := hv
  have hx := B.exec
  have hb := B.bytes
  have hr := B.returns
  have hts := atoms_spec (ws := wsX3_nodeAt) B.pre
  have hown : s.vm.findClass RX3 = some m.cls := findClass_of_methodNamed B.named
  have hlocks := B.notSynchronized
  have hS : va_S (gF G s.heap.size) s.heap s.heap [] := va_S.rf
  have inX3 : ∀ w ∈ u_ws RX3 TX3 22, w ∈ wsX3_nodeAt := by decide +kernel
  have hl := lv_entry ([.ref (gA G 0), .int (nI t), .int x, .int y, .int z]) (n := 7) (Nat.le_of_ble_eq_true rfl)
  rw [lg_entry_eq]
  generalize (lg_sl ([.ref (gA G 0), .int (nI t), .int x, .int y, .int z]) ++ List.replicate (7 - (lg_sl ([.ref (gA G 0), .int (nI t), .int x, .int y, .int z])).length) Slot.unset).toArray = ls at hl ⊢
  have hl : lv_has ls 7 [(0, .ref (gA G 0)), (1, .int (nI t)), (2, .int x), (3, .int y), (4, .int z)] := hl
  have LP : ∀ (n : Nat) (f : Int32), (n ≤ 15) → ∀ (ls : Array Slot), lv_has ls 7 [(0, .ref (gA G 0)), (1, .int (nI t)), (2, .int x), (3, .int y), (4, .int z), (5, .int f), (6, .int (nI n))] → W p l e (headSpec wsX3_nodeAt ({ frames := 2, cells := 0, slots := 0, locals := 44 } : Room)).room s m ([.ref (gA G 0), .int (nI t), .int x, .int y, .int z] : List Value).toArray below meth c s.heap [] 0 0 (MQ below (vp_Si (fun r => r = naG S t x y z n f)) ([.ref (gA G 0), .int (nI t), .int x, .int y, .int z] : List Value).toArray s 0 0 (fun _ => False)) (F0 m 7 ls []) := by
    intro n
    induction n with
    | zero =>
      intro f h2 ls hl
      refine lv_iload hx hb dX3_nodeAt_7 (lv_at hl 6 rfl) ?_
      refine lv_if_le (tgt := 76) hx hb dX3_nodeAt_9 (by decide) (fun c_9 => ?_) (fun c_9 => ?_)
      · refine lv_iload hx hb dX3_nodeAt_76 (lv_at hl 5 rfl) ?_
        exact W.iret (v := f) hx hb hr (fun t9 ht9 _ => ⟨_, rfl, rfl, ht9⟩) (fun _ h => by cases h) dX3_nodeAt_78
      · exact absurd (show nI 0 ≤ 0 by decide) c_9
    | succ n ih =>
      intro f h2 ls hl
      refine lv_iload hx hb dX3_nodeAt_7 (lv_at hl 6 rfl) ?_
      refine lv_if_le (tgt := 76) hx hb dX3_nodeAt_9 (by decide) (fun c_9 => ?_) (fun c_9 => ?_)
      · exact absurd c_9 (nI_nle (by omega) (by omega))
      · refine lv_iload hx hb dX3_nodeAt_12 (lv_at hl 6 rfl) ?_
        refine lv_iload hx hb dX3_nodeAt_14 (lv_at hl 4 rfl) ?_
        refine lv_icmp_eq (tgt := 66) hx hb dX3_nodeAt_16 (by decide) (fun c_16 => ?_) (fun c_16 => ?_)
        · refine lv_iload hx hb dX3_nodeAt_66 (lv_at hl 5 rfl) ?_
          refine lv_istore (lv' := [(5, .int f), (0, .ref (gA G 0)), (1, .int (nI t)), (2, .int x), (3, .int y), (4, .int z), (6, .int (nI (n + 1)))]) hx hb dX3_nodeAt_68 hl (by decide) rfl (fun ls hl => ?_)
          refine lv_iinc (v := nI n) (lv' := [(6, .int (nI n)), (5, .int f), (0, .ref (gA G 0)), (1, .int (nI t)), (2, .int x), (3, .int y), (4, .int z)]) hx hb dX3_nodeAt_70 hl (k := 6) rfl (pk_m1 n) (by decide) rfl (fun ls hl => ?_)
          refine lv_goto (tgt := 7) hx hb dX3_nodeAt_73 (by decide) ?_
          have E : naG S t x y z (n + 1) f = naG S t x y z n f := by rw [naG, if_neg (by simp [naC, c_16])]
          rw [E]
          exact ih _ (by omega) ls (lv_sub hl [2, 3, 4, 5, 6, 1, 0] rfl)
        · refine lv_aload_n hx hb dX3_nodeAt_19 rfl (lv_at hl 0 rfl) ?_
          refine lv_iload_n hx hb dX3_nodeAt_20 rfl (lv_at hl 1 rfl) ?_
          refine lv_iload hx hb dX3_nodeAt_21 (lv_at hl 6 rfl) ?_
          refine pv_i (va_runV (As := [.int (nI t), .int (nI (n + 1))]) (rest := []) ⟨hx, hb, hml, hown, hts⟩ (k_X3_isAlive l G S (t := t) (by omega) (nI (n + 1))) (cwV 2 hts gX3_nodeAt_X3_isAlive rfl rfl rfl (by decide +kernel) ⟨Nat.le_of_ble_eq_true rfl, Nat.le_of_ble_eq_true rfl⟩) ⟨mP_blind, m_recv hW hK, mP_at hW hK hS⟩ rfl rfl hl.1 rfl (lv_room (Nat.le_of_ble_eq_true rfl)) dX3_nodeAt_23 ⟨Nat.le_of_ble_eq_true rfl, Nat.le_of_ble_eq_true rfl⟩) (fun r_1 hr_1 => ?_)
          rw [mAl_nI S t (by omega)] at hr_1
          subst hr_1
          refine bv_if_eq (b := ti (S.1 4 t) (n + 1)) (tgt := 66) hx hb dX3_nodeAt_26 (by decide) (fun c_26 => ?_) (fun c_26 => ?_)
          · refine lv_iload hx hb dX3_nodeAt_66 (lv_at hl 5 rfl) ?_
            refine lv_istore (lv' := [(5, .int f), (0, .ref (gA G 0)), (1, .int (nI t)), (2, .int x), (3, .int y), (4, .int z), (6, .int (nI (n + 1)))]) hx hb dX3_nodeAt_68 hl (by decide) rfl (fun ls hl => ?_)
            refine lv_iinc (v := nI n) (lv' := [(6, .int (nI n)), (5, .int f), (0, .ref (gA G 0)), (1, .int (nI t)), (2, .int x), (3, .int y), (4, .int z)]) hx hb dX3_nodeAt_70 hl (k := 6) rfl (pk_m1 n) (by decide) rfl (fun ls hl => ?_)
            refine lv_goto (tgt := 7) hx hb dX3_nodeAt_73 (by decide) ?_
            have E : naG S t x y z (n + 1) f = naG S t x y z n f := by rw [naG, if_neg (by simp [naC, c_16, c_26])]
            rw [E]
            exact ih _ (by omega) ls (lv_sub hl [2, 3, 4, 5, 6, 1, 0] rfl)
          · refine lv_aload_n hx hb dX3_nodeAt_29 rfl (lv_at hl 0 rfl) ?_
            refine va_get (D := gD G) (ci := 3) (v := .ref (gA G 5)) (C := RX3) (T := TX3) (N := 22) hx hb hts inX3 hown hK.1 hW 0 mw_0 rfl 7 (by decide) (hts (.fieldLink RX3 31 "MarkedTreesModel" "parent" "[I") (by decide +kernel)) (fun _ h9 => h9) rfl dX3_nodeAt_30 ?_
            refine lv_bipush (v := nI 16) hx hb dX3_nodeAt_33 (by decide) ?_
            refine lv_iload_n hx hb dX3_nodeAt_35 rfl (lv_at hl 1 rfl) ?_
            refine nv_imul hx hb dX3_nodeAt_36 ?_
            refine lv_iload hx hb dX3_nodeAt_37 (lv_at hl 6 rfl) ?_
            refine nv_iadd hx hb dX3_nodeAt_39 ?_
            refine nv_iald hx hb hK.1 hW 5 0 mw_5 rfl (i := (16 * t) + (n + 1)) (by omega) (by decide) dX3_nodeAt_40 ?_
            refine lv_iload_n hx hb dX3_nodeAt_41 rfl (lv_at hl 2 rfl) ?_
            refine lv_icmp_ne (tgt := 66) hx hb dX3_nodeAt_42 (by decide) (fun c_42 => ?_) (fun c_42 => ?_)
            · refine lv_iload hx hb dX3_nodeAt_66 (lv_at hl 5 rfl) ?_
              refine lv_istore (lv' := [(5, .int f), (0, .ref (gA G 0)), (1, .int (nI t)), (2, .int x), (3, .int y), (4, .int z), (6, .int (nI (n + 1)))]) hx hb dX3_nodeAt_68 hl (by decide) rfl (fun ls hl => ?_)
              refine lv_iinc (v := nI n) (lv' := [(6, .int (nI n)), (5, .int f), (0, .ref (gA G 0)), (1, .int (nI t)), (2, .int x), (3, .int y), (4, .int z)]) hx hb dX3_nodeAt_70 hl (k := 6) rfl (pk_m1 n) (by decide) rfl (fun ls hl => ?_)
              refine lv_goto (tgt := 7) hx hb dX3_nodeAt_73 (by decide) ?_
              have E : naG S t x y z (n + 1) f = naG S t x y z n f := by rw [naG, if_neg (by simp [naC, c_16, c_26, c_42])]
              rw [E]
              exact ih _ (by omega) ls (lv_sub hl [2, 3, 4, 5, 6, 1, 0] rfl)
            · refine lv_aload_n hx hb dX3_nodeAt_45 rfl (lv_at hl 0 rfl) ?_
              refine va_get (D := gD G) (ci := 3) (v := .ref (gA G 6)) (C := RX3) (T := TX3) (N := 22) hx hb hts inX3 hown hK.1 hW 0 mw_0 rfl 8 (by decide) (hts (.fieldLink RX3 34 "MarkedTreesModel" "name" "[I") (by decide +kernel)) (fun _ h9 => h9) rfl dX3_nodeAt_46 ?_
              refine lv_bipush (v := nI 16) hx hb dX3_nodeAt_49 (by decide) ?_
              refine lv_iload_n hx hb dX3_nodeAt_51 rfl (lv_at hl 1 rfl) ?_
              refine nv_imul hx hb dX3_nodeAt_52 ?_
              refine lv_iload hx hb dX3_nodeAt_53 (lv_at hl 6 rfl) ?_
              refine nv_iadd hx hb dX3_nodeAt_55 ?_
              refine nv_iald hx hb hK.1 hW 6 0 mw_6 rfl (i := (16 * t) + (n + 1)) (by omega) (by decide) dX3_nodeAt_56 ?_
              refine lv_iload_n hx hb dX3_nodeAt_57 rfl (lv_at hl 3 rfl) ?_
              refine lv_icmp_ne (tgt := 66) hx hb dX3_nodeAt_58 (by decide) (fun c_58 => ?_) (fun c_58 => ?_)
              · refine lv_iload hx hb dX3_nodeAt_66 (lv_at hl 5 rfl) ?_
                refine lv_istore (lv' := [(5, .int f), (0, .ref (gA G 0)), (1, .int (nI t)), (2, .int x), (3, .int y), (4, .int z), (6, .int (nI (n + 1)))]) hx hb dX3_nodeAt_68 hl (by decide) rfl (fun ls hl => ?_)
                refine lv_iinc (v := nI n) (lv' := [(6, .int (nI n)), (5, .int f), (0, .ref (gA G 0)), (1, .int (nI t)), (2, .int x), (3, .int y), (4, .int z)]) hx hb dX3_nodeAt_70 hl (k := 6) rfl (pk_m1 n) (by decide) rfl (fun ls hl => ?_)
                refine lv_goto (tgt := 7) hx hb dX3_nodeAt_73 (by decide) ?_
                have E : naG S t x y z (n + 1) f = naG S t x y z n f := by rw [naG, if_neg (by simp [naC, c_16, c_26, c_42, c_58])]
                rw [E]
                exact ih _ (by omega) ls (lv_sub hl [2, 3, 4, 5, 6, 1, 0] rfl)
              · refine lv_iload hx hb dX3_nodeAt_61 (lv_at hl 6 rfl) ?_
                refine lv_goto (tgt := 68) hx hb dX3_nodeAt_63 (by decide) ?_
                refine lv_istore (lv' := [(5, .int (nI (n + 1))), (0, .ref (gA G 0)), (1, .int (nI t)), (2, .int x), (3, .int y), (4, .int z), (6, .int (nI (n + 1)))]) hx hb dX3_nodeAt_68 hl (by decide) rfl (fun ls hl => ?_)
                refine lv_iinc (v := nI n) (lv' := [(6, .int (nI n)), (5, .int (nI (n + 1))), (0, .ref (gA G 0)), (1, .int (nI t)), (2, .int x), (3, .int y), (4, .int z)]) hx hb dX3_nodeAt_70 hl (k := 6) rfl (pk_m1 n) (by decide) rfl (fun ls hl => ?_)
                refine lv_goto (tgt := 7) hx hb dX3_nodeAt_73 (by decide) ?_
                have E : naG S t x y z (n + 1) f = naG S t x y z n (nI (n + 1)) := by rw [naG, if_pos (by simp [naC, c_16, c_26, c_42, c_58])]
                rw [E]
                exact ih _ (by omega) ls (lv_sub hl [2, 3, 4, 5, 6, 1, 0] rfl)
  refine lv_iconst (v := (-1)) hx hb dX3_nodeAt_0 (by decide) ?_
  refine lv_istore (lv' := [(5, .int (-1)), (0, .ref (gA G 0)), (1, .int (nI t)), (2, .int x), (3, .int y), (4, .int z)]) hx hb dX3_nodeAt_1 hl (by decide) rfl (fun ls hl => ?_)
  refine lv_bipush (v := nI 15) hx hb dX3_nodeAt_3 (by decide) ?_
  refine lv_istore (lv' := [(6, .int (nI 15)), (5, .int (-1)), (0, .ref (gA G 0)), (1, .int (nI t)), (2, .int x), (3, .int y), (4, .int z)]) hx hb dX3_nodeAt_5 hl (by decide) rfl (fun ls hl => ?_)
  exact LP 15 (-1) (by omega) ls (lv_sub hl [2, 3, 4, 5, 6, 1, 0] rfl)

set_option maxHeartbeats 4000000 in
set_option maxRecDepth 100000 in
theorem k_X3_within (l : Launch) (G : GT) (S : SS) {t : Nat} (ht : t < 43) {rk : Nat → Nat} (hrk : ∀ j, 1 ≤ j → j < 16 → ti (S.1 4 t) j = true → ∃ p, p < 16 ∧ S.1 5 (16 * t + j) = nI p ∧ ti (S.1 4 t) p = true ∧ rk p < rk j) {j0 : Nat} (hj0 : j0 < 16) (hja : ti (S.1 4 t) j0 = true) (y : Int32) : Met l yX3_within wsX3_within ({ frames := 0, cells := 0, slots := 0, locals := 0 } : Room) (va_Pc [.ref (gA G 0), .int (nI t), .int (nI j0), .int y] (mP G S)) (vp_Si (fun r => r = bI (wiG S t y (rk j0) j0))) 0 0 (fun _ => False) := by
  refine Met.ofW (cc := cX3_within) (maxL := 5) (ret := (some .boolean)) (by decide) rfl ?_
  intro p e s m args below meth c s₁ B hml hv
  obtain ⟨rfl, hW, hK⟩ := hv
  have hx := B.exec
  have hb := B.bytes
  have hr := B.returns
  have hts := atoms_spec (ws := wsX3_within) B.pre
  have hown : s.vm.findClass RX3 = some m.cls := findClass_of_methodNamed B.named
  have hlocks := B.notSynchronized
  have hS : va_S (gF G s.heap.size) s.heap s.heap [] := va_S.rf
  have inX3 : ∀ w ∈ u_ws RX3 TX3 22, w ∈ wsX3_within := by decide +kernel
  have hl := lv_entry ([.ref (gA G 0), .int (nI t), .int (nI j0), .int y]) (n := 5) (Nat.le_of_ble_eq_true rfl)
  rw [lg_entry_eq]
  generalize (lg_sl ([.ref (gA G 0), .int (nI t), .int (nI j0), .int y]) ++ List.replicate (5 - (lg_sl ([.ref (gA G 0), .int (nI t), .int (nI j0), .int y])).length) Slot.unset).toArray = ls at hl ⊢
  have hl : lv_has ls 5 [(0, .ref (gA G 0)), (1, .int (nI t)), (2, .int (nI j0)), (3, .int y)] := hl
  have LP : ∀ (n j : Nat), j < 16 → ti (S.1 4 t) j = true → rk j ≤ n → ∀ (ls : Array Slot), lv_has ls 5 [(0, .ref (gA G 0)), (1, .int (nI t)), (3, .int y), (4, .int (nI j))] → W p l e (headSpec wsX3_within ({ frames := 0, cells := 0, slots := 0, locals := 0 } : Room)).room s m ([.ref (gA G 0), .int (nI t), .int (nI j0), .int y] : List Value).toArray below meth c s.heap [] 0 0 (MQ below (vp_Si (fun r => r = bI (wiG S t y n j))) ([.ref (gA G 0), .int (nI t), .int (nI j0), .int y] : List Value).toArray s 0 0 (fun _ => False)) (F0 m 3 ls []) := by
    intro n
    induction n with
    | zero =>
      intro j hj hja hn ls hl
      refine lv_iload hx hb dX3_within_3 (lv_at hl 3 rfl) ?_
      refine lv_if_le (tgt := 31) hx hb dX3_within_5 (by decide) (fun c_5 => ?_) (fun c_5 => ?_)
      · refine lv_iload hx hb dX3_within_31 (lv_at hl 3 rfl) ?_
        refine lv_iload_n hx hb dX3_within_33 rfl (lv_at hl 2 rfl) ?_
        refine lv_icmp_ne (tgt := 41) hx hb dX3_within_34 (by decide) (fun c_34 => ?_) (fun c_34 => ?_)
        · refine lv_iconst (v := nI 0) hx hb dX3_within_41 (by decide) ?_
          exact W.zret (v := nI 0) hx hb hr rfl (fun t9 ht9 _ => ⟨_, rfl, (bI_i0 (by have j0 : j = 0 := (nI_le0 (by omega)).mp c_5; rw [wiG]; exact decide_eq_false c_34)), ht9⟩) (fun _ h => by cases h) dX3_within_42
        · refine lv_iconst (v := nI 1) hx hb dX3_within_37 (by decide) ?_
          refine lv_goto (tgt := 42) hx hb dX3_within_38 (by decide) ?_
          exact W.zret (v := nI 1) hx hb hr rfl (fun t9 ht9 _ => ⟨_, rfl, (bI_i1 (by have j0 : j = 0 := (nI_le0 (by omega)).mp c_5; rw [wiG]; exact decide_eq_true c_34)), ht9⟩) (fun _ h => by cases h) dX3_within_42
      · refine lv_iload hx hb dX3_within_8 (lv_at hl 3 rfl) ?_
        refine lv_iload_n hx hb dX3_within_10 rfl (lv_at hl 2 rfl) ?_
        refine lv_icmp_eq (tgt := 31) hx hb dX3_within_11 (by decide) (fun c_11 => ?_) (fun c_11 => ?_)
        · refine lv_iload hx hb dX3_within_31 (lv_at hl 3 rfl) ?_
          refine lv_iload_n hx hb dX3_within_33 rfl (lv_at hl 2 rfl) ?_
          refine lv_icmp_ne (tgt := 41) hx hb dX3_within_34 (by decide) (fun c_34 => ?_) (fun c_34 => ?_)
          · exact absurd c_11 c_34
          · refine lv_iconst (v := nI 1) hx hb dX3_within_37 (by decide) ?_
            refine lv_goto (tgt := 42) hx hb dX3_within_38 (by decide) ?_
            exact W.zret (v := nI 1) hx hb hr rfl (fun t9 ht9 _ => ⟨_, rfl, (bI_i1 (by rw [wiG]; exact decide_eq_true c_11)), ht9⟩) (fun _ h => by cases h) dX3_within_42
        · obtain ⟨q, hq, eq, hqa, hqr⟩ := hrk j (Nat.pos_of_ne_zero (fun z => c_5 ((nI_le0 (by omega)).mpr z))) hj hja
          exact absurd hqr (by omega)
    | succ n ih =>
      intro j hj hja hn ls hl
      refine lv_iload hx hb dX3_within_3 (lv_at hl 3 rfl) ?_
      refine lv_if_le (tgt := 31) hx hb dX3_within_5 (by decide) (fun c_5 => ?_) (fun c_5 => ?_)
      · refine lv_iload hx hb dX3_within_31 (lv_at hl 3 rfl) ?_
        refine lv_iload_n hx hb dX3_within_33 rfl (lv_at hl 2 rfl) ?_
        refine lv_icmp_ne (tgt := 41) hx hb dX3_within_34 (by decide) (fun c_34 => ?_) (fun c_34 => ?_)
        · refine lv_iconst (v := nI 0) hx hb dX3_within_41 (by decide) ?_
          exact W.zret (v := nI 0) hx hb hr rfl (fun t9 ht9 _ => ⟨_, rfl, (bI_i0 (by have j0 : j = 0 := (nI_le0 (by omega)).mp c_5; rw [wiG, if_pos j0]; exact decide_eq_false c_34)), ht9⟩) (fun _ h => by cases h) dX3_within_42
        · refine lv_iconst (v := nI 1) hx hb dX3_within_37 (by decide) ?_
          refine lv_goto (tgt := 42) hx hb dX3_within_38 (by decide) ?_
          exact W.zret (v := nI 1) hx hb hr rfl (fun t9 ht9 _ => ⟨_, rfl, (bI_i1 (by have j0 : j = 0 := (nI_le0 (by omega)).mp c_5; rw [wiG, if_pos j0]; exact decide_eq_true c_34)), ht9⟩) (fun _ h => by cases h) dX3_within_42
      · refine lv_iload hx hb dX3_within_8 (lv_at hl 3 rfl) ?_
        refine lv_iload_n hx hb dX3_within_10 rfl (lv_at hl 2 rfl) ?_
        refine lv_icmp_eq (tgt := 31) hx hb dX3_within_11 (by decide) (fun c_11 => ?_) (fun c_11 => ?_)
        · refine lv_iload hx hb dX3_within_31 (lv_at hl 3 rfl) ?_
          refine lv_iload_n hx hb dX3_within_33 rfl (lv_at hl 2 rfl) ?_
          refine lv_icmp_ne (tgt := 41) hx hb dX3_within_34 (by decide) (fun c_34 => ?_) (fun c_34 => ?_)
          · exact absurd c_11 c_34
          · refine lv_iconst (v := nI 1) hx hb dX3_within_37 (by decide) ?_
            refine lv_goto (tgt := 42) hx hb dX3_within_38 (by decide) ?_
            exact W.zret (v := nI 1) hx hb hr rfl (fun t9 ht9 _ => ⟨_, rfl, (bI_i1 (by rw [wiG, if_neg (fun z => c_5 ((nI_le0 (by omega)).mpr z)), if_pos c_11])), ht9⟩) (fun _ h => by cases h) dX3_within_42
        · refine lv_aload_n hx hb dX3_within_14 rfl (lv_at hl 0 rfl) ?_
          refine va_get (D := gD G) (ci := 3) (v := .ref (gA G 5)) (C := RX3) (T := TX3) (N := 22) hx hb hts inX3 hown hK.1 hW 0 mw_0 rfl 7 (by decide) (hts (.fieldLink RX3 31 "MarkedTreesModel" "parent" "[I") (by decide +kernel)) (fun _ h9 => h9) rfl dX3_within_15 ?_
          refine lv_bipush (v := nI 16) hx hb dX3_within_18 (by decide) ?_
          refine lv_iload_n hx hb dX3_within_20 rfl (lv_at hl 1 rfl) ?_
          refine nv_imul hx hb dX3_within_21 ?_
          refine lv_iload hx hb dX3_within_22 (lv_at hl 3 rfl) ?_
          refine nv_iadd hx hb dX3_within_24 ?_
          refine nv_iald hx hb hK.1 hW 5 0 mw_5 rfl (i := (16 * t) + j) (by omega) (by decide) dX3_within_25 ?_
          obtain ⟨q, hq, eq, hqa, hqr⟩ := hrk j (Nat.pos_of_ne_zero (fun z => c_5 ((nI_le0 (by omega)).mpr z))) hj hja
          refine lv_rwi eq ?_
          refine lv_istore (lv' := [(4, .int (nI q)), (0, .ref (gA G 0)), (1, .int (nI t)), (3, .int y)]) hx hb dX3_within_26 hl (by decide) rfl (fun ls hl => ?_)
          refine lv_goto (tgt := 3) hx hb dX3_within_28 (by decide) ?_
          have E : wiG S t y (n + 1) j = wiG S t y n q := by rw [wiG, if_neg (fun z => c_5 ((nI_le0 (by omega)).mpr z)), if_neg c_11, eq]; exact congrArg _ (cn_nI (by omega))
          rw [E]
          exact ih q hq hqa (by omega) ls (lv_sub hl [1, 2, 3, 0] rfl)
  refine lv_iload_n hx hb dX3_within_0 rfl (lv_at hl 2 rfl) ?_
  refine lv_istore (lv' := [(4, .int (nI j0)), (0, .ref (gA G 0)), (1, .int (nI t)), (2, .int (nI j0)), (3, .int y)]) hx hb dX3_within_1 hl (by decide) rfl (fun ls hl => ?_)
  exact LP (rk j0) j0 hj0 hja (Nat.le_refl _) ls (lv_sub hl [1, 2, 4, 0] rfl)

set_option maxHeartbeats 4000000 in
set_option maxRecDepth 100000 in
theorem k_X3_allKnown (l : Launch) (G : GT) (S : SS) (x : Int64) {r0 : Nat} (hr0 : r0 < 40) : Met l yX3_allKnown wsX3_allKnown ({ frames := 0, cells := 0, slots := 0, locals := 0 } : Room) (va_Pc [.ref (gA G 0), .long x, .int (nI r0)] (mP G S)) (vp_Si (fun r => r = bI (mAK S x r0))) 0 0 (fun _ => False) := by
  refine Met.ofW (cc := cX3_allKnown) (maxL := 4) (ret := (some .boolean)) (by decide) rfl ?_
  intro p e s m args below meth c s₁ B hml hv
  obtain ⟨rfl, hW, hK⟩ := hv
  have hx := B.exec
  have hb := B.bytes
  have hr := B.returns
  have hts := atoms_spec (ws := wsX3_allKnown) B.pre
  have hown : s.vm.findClass RX3 = some m.cls := findClass_of_methodNamed B.named
  have hlocks := B.notSynchronized
  have hS : va_S (gF G s.heap.size) s.heap s.heap [] := va_S.rf
  have inX3 : ∀ w ∈ u_ws RX3 TX3 22, w ∈ wsX3_allKnown := by decide +kernel
  have hl := lv_entry ([.ref (gA G 0), .long x, .int (nI r0)]) (n := 4) (Nat.le_of_ble_eq_true rfl)
  rw [lg_entry_eq]
  generalize (lg_sl ([.ref (gA G 0), .long x, .int (nI r0)]) ++ List.replicate (4 - (lg_sl ([.ref (gA G 0), .long x, .int (nI r0)])).length) Slot.unset).toArray = ls at hl ⊢
  have hl : lv_has ls 4 [(0, .ref (gA G 0)), (1, .long x), (3, .int (nI r0))] := hl
  refine lv_lload_n hx hb dX3_allKnown_0 rfl (lv_at hl 1 rfl) ?_
  refine lv_aload_n hx hb dX3_allKnown_1 rfl (lv_at hl 0 rfl) ?_
  refine va_get (D := gD G) (ci := 3) (v := .ref (gA G 1)) (C := RX3) (T := TX3) (N := 22) hx hb hts inX3 hown hK.1 hW 0 mw_0 rfl 2 (by decide) (hts (.fieldLink RX3 13 "MarkedTreesModel" "ancestors" "[J") (by decide +kernel)) (fun _ h9 => h9) rfl dX3_allKnown_2 ?_
  refine lv_iload_n hx hb dX3_allKnown_5 rfl (lv_at hl 2 rfl) ?_
  refine nv_lald hx hb hK.1 hW 1 1 mw_1 rfl (i := r0) (by omega) (by decide) dX3_allKnown_6 ?_
  refine lv_lconst (v := 1) hx hb dX3_allKnown_7 (by decide) ?_
  refine lv_iload_n hx hb dX3_allKnown_8 rfl (lv_at hl 2 rfl) ?_
  refine lv_lshl (v := 1 <<< ((nI r0).toInt64 &&& 63)) hx hb dX3_allKnown_9 rfl ?_
  refine lv_lor hx hb dX3_allKnown_10 ?_
  refine lv_ldc2 (v := (-1)) hx hb hown (hts (.constantLong RX3 120 (-1)) (by decide +kernel)) dX3_allKnown_11 ?_
  refine lv_lxor hx hb dX3_allKnown_14 ?_
  refine lv_land hx hb dX3_allKnown_15 ?_
  refine lv_lconst (v := 0) hx hb dX3_allKnown_16 (by decide) ?_
  refine W.lcmp hx hb dX3_allKnown_17 ?_
  refine cv_if_ne (tgt := 25) hx hb dX3_allKnown_18 (by decide) (fun c_18 => ?_) (fun c_18 => ?_)
  · refine lv_iconst (v := nI 0) hx hb dX3_allKnown_25 (by decide) ?_
    exact W.zret (v := nI 0) hx hb hr rfl (fun t9 ht9 _ => ⟨_, rfl, (bI_i0 (decide_eq_false c_18)), ht9⟩) (fun _ h => by cases h) dX3_allKnown_26
  · refine lv_iconst (v := nI 1) hx hb dX3_allKnown_21 (by decide) ?_
    refine lv_goto (tgt := 26) hx hb dX3_allKnown_22 (by decide) ?_
    exact W.zret (v := nI 1) hx hb hr rfl (fun t9 ht9 _ => ⟨_, rfl, (bI_i1 (decide_eq_true c_18)), ht9⟩) (fun _ h => by cases h) dX3_allKnown_26

set_option maxHeartbeats 4000000 in
set_option maxRecDepth 100000 in
theorem k_X3_latest (l : Launch) (G : GT) (S : SS) (x : Int64) : Met l yX3_latest wsX3_latest ({ frames := 0, cells := 0, slots := 0, locals := 0 } : Room) (va_Pc [.ref (gA G 0), .long x] (mP G S)) (vp_Sl (fun r => r = mltG S x 40 0 x)) 0 0 (fun _ => False) := by
  refine Met.ofW (cc := cX3_latest) (maxL := 6) (ret := (some .long)) (by decide) rfl ?_
  intro p e s m args below meth c s₁ B hml hv
  obtain ⟨rfl, hW, hK⟩ := hv
  have hx := B.exec
  have hb := B.bytes
  have hr := B.returns
  have hts := atoms_spec (ws := wsX3_latest) B.pre
  have hown : s.vm.findClass RX3 = some m.cls := findClass_of_methodNamed B.named
  have hlocks := B.notSynchronized
  have hS : va_S (gF G s.heap.size) s.heap s.heap [] := va_S.rf
  have inX3 : ∀ w ∈ u_ws RX3 TX3 22, w ∈ wsX3_latest := by decide +kernel
  have hl := lv_entry ([.ref (gA G 0), .long x]) (n := 6) (Nat.le_of_ble_eq_true rfl)
  rw [lg_entry_eq]
  generalize (lg_sl ([.ref (gA G 0), .long x]) ++ List.replicate (6 - (lg_sl ([.ref (gA G 0), .long x])).length) Slot.unset).toArray = ls at hl ⊢
  have hl : lv_has ls 6 [(0, .ref (gA G 0)), (1, .long x)] := hl
  have LP : ∀ (n : Nat) (k : Nat) (a : Int64), (k + n = 40) → ∀ (ls : Array Slot), lv_has ls 6 [(0, .ref (gA G 0)), (1, .long x), (3, .long a), (5, .int (nI k))] → W p l e (headSpec wsX3_latest ({ frames := 0, cells := 0, slots := 0, locals := 0 } : Room)).room s m ([.ref (gA G 0), .long x] : List Value).toArray below meth c s.heap [] 0 0 (MQ below (vp_Sl (fun r => r = mltG S x n k a)) ([.ref (gA G 0), .long x] : List Value).toArray s 0 0 (fun _ => False)) (F0 m 5 ls []) := by
    intro n
    induction n with
    | zero =>
      intro k a h2 ls hl
      refine lv_iload hx hb dX3_latest_5 (lv_at hl 3 rfl) ?_
      refine lv_bipush (v := nI 40) hx hb dX3_latest_7 (by decide) ?_
      refine nv_icmp_ge (tgt := 47) hx hb (by omega) (by omega) dX3_latest_9 (by decide) (fun c_9 => ?_) (fun c_9 => ?_)
      · refine lv_lload_n hx hb dX3_latest_47 rfl (lv_at hl 2 rfl) ?_
        exact W.lret (v := a) hx hb hr (fun t9 ht9 _ => ⟨_, rfl, rfl, ht9⟩) (fun _ h => by cases h) dX3_latest_48
      · exact absurd c_9 (by omega)
    | succ n ih =>
      intro k a h2 ls hl
      refine lv_iload hx hb dX3_latest_5 (lv_at hl 3 rfl) ?_
      refine lv_bipush (v := nI 40) hx hb dX3_latest_7 (by decide) ?_
      refine nv_icmp_ge (tgt := 47) hx hb (by omega) (by omega) dX3_latest_9 (by decide) (fun c_9 => ?_) (fun c_9 => ?_)
      · exact absurd c_9 (by omega)
      · refine lv_lload_n hx hb dX3_latest_12 rfl (lv_at hl 1 rfl) ?_
        refine lv_iload hx hb dX3_latest_13 (lv_at hl 3 rfl) ?_
        refine lv_lshr (v := x >>> ((nI k).toInt64 &&& 63)) hx hb dX3_latest_15 rfl ?_
        refine lv_lconst (v := 1) hx hb dX3_latest_16 (by decide) ?_
        refine lv_land hx hb dX3_latest_17 ?_
        refine lv_lconst (v := 1) hx hb dX3_latest_18 (by decide) ?_
        refine W.lcmp hx hb dX3_latest_19 ?_
        refine cv_if_ne (tgt := 39) hx hb dX3_latest_20 (by decide) (fun c_20 => ?_) (fun c_20 => ?_)
        · refine lv_lload_n hx hb dX3_latest_39 rfl (lv_at hl 2 rfl) ?_
          refine lv_lstore_n (lv' := [(3, .long a), (0, .ref (gA G 0)), (1, .long x), (5, .int (nI k))]) hx hb dX3_latest_40 rfl hl (by decide) rfl (fun ls hl => ?_)
          refine lv_iinc (v := nI (k + 1)) (lv' := [(5, .int (nI (k + 1))), (3, .long a), (0, .ref (gA G 0)), (1, .long x)]) hx hb dX3_latest_41 hl (k := 3) rfl (nI_add k 1) (by decide) rfl (fun ls hl => ?_)
          refine lv_goto (tgt := 5) hx hb dX3_latest_44 (by decide) ?_
          have E : mltG S x (n + 1) k a = mltG S x n (k + 1) (a) := by rw [mltG, if_neg (fun z => c_20 ((tb_shr1 _ (by omega)).mpr z))]
          rw [E]
          exact ih (k + 1) _ (by omega) ls (lv_sub hl [2, 3, 1, 0] rfl)
        · refine lv_lload_n hx hb dX3_latest_23 rfl (lv_at hl 2 rfl) ?_
          refine lv_aload_n hx hb dX3_latest_24 rfl (lv_at hl 0 rfl) ?_
          refine va_get (D := gD G) (ci := 3) (v := .ref (gA G 1)) (C := RX3) (T := TX3) (N := 22) hx hb hts inX3 hown hK.1 hW 0 mw_0 rfl 2 (by decide) (hts (.fieldLink RX3 13 "MarkedTreesModel" "ancestors" "[J") (by decide +kernel)) (fun _ h9 => h9) rfl dX3_latest_25 ?_
          refine lv_iload hx hb dX3_latest_28 (lv_at hl 3 rfl) ?_
          refine nv_lald hx hb hK.1 hW 1 1 mw_1 rfl (i := k) (by omega) (by decide) dX3_latest_30 ?_
          refine lv_ldc2 (v := (-1)) hx hb hown (hts (.constantLong RX3 120 (-1)) (by decide +kernel)) dX3_latest_31 ?_
          refine lv_lxor hx hb dX3_latest_34 ?_
          refine lv_land hx hb dX3_latest_35 ?_
          refine lv_goto (tgt := 40) hx hb dX3_latest_36 (by decide) ?_
          refine lv_lstore_n (lv' := [(3, .long (a &&& ((S.2 1 k) ^^^ (-1)))), (0, .ref (gA G 0)), (1, .long x), (5, .int (nI k))]) hx hb dX3_latest_40 rfl hl (by decide) rfl (fun ls hl => ?_)
          refine lv_iinc (v := nI (k + 1)) (lv' := [(5, .int (nI (k + 1))), (3, .long (a &&& ((S.2 1 k) ^^^ (-1)))), (0, .ref (gA G 0)), (1, .long x)]) hx hb dX3_latest_41 hl (k := 3) rfl (nI_add k 1) (by decide) rfl (fun ls hl => ?_)
          refine lv_goto (tgt := 5) hx hb dX3_latest_44 (by decide) ?_
          have E : mltG S x (n + 1) k a = mltG S x n (k + 1) (a &&& ((S.2 1 k) ^^^ (-1))) := by rw [mltG, if_pos ((tb_shr1 _ (by omega)).mp c_20)]
          rw [E]
          exact ih (k + 1) _ (by omega) ls (lv_sub hl [2, 3, 1, 0] rfl)
  refine lv_lload_n hx hb dX3_latest_0 rfl (lv_at hl 1 rfl) ?_
  refine lv_lstore_n (lv' := [(3, .long x), (0, .ref (gA G 0)), (1, .long x)]) hx hb dX3_latest_1 rfl hl (by decide) rfl (fun ls hl => ?_)
  refine lv_iconst (v := nI 0) hx hb dX3_latest_2 (by decide) ?_
  refine lv_istore (lv' := [(5, .int (nI 0)), (3, .long x), (0, .ref (gA G 0)), (1, .long x)]) hx hb dX3_latest_3 hl (by decide) rfl (fun ls hl => ?_)
  exact LP 40 0 x (by omega) ls (lv_sub hl [2, 3, 1, 0] rfl)

set_option maxHeartbeats 4000000 in
set_option maxRecDepth 100000 in
theorem k_X3_closed (l : Launch) (G : GT) (S : SS) (x : Int64) : Met l yX3_closed wsX3_closed ({ frames := 0, cells := 0, slots := 0, locals := 0 } : Room) (va_Pc [.ref (gA G 0), .long x] (mP G S)) (vp_Sl (fun r => r = mclG S x 40 0 x)) 0 0 (fun _ => False) := by
  refine Met.ofW (cc := cX3_closed) (maxL := 6) (ret := (some .long)) (by decide) rfl ?_
  intro p e s m args below meth c s₁ B hml hv
  obtain ⟨rfl, hW, hK⟩ := hv
  have hx := B.exec
  have hb := B.bytes
  have hr := B.returns
  have hts := atoms_spec (ws := wsX3_closed) B.pre
  have hown : s.vm.findClass RX3 = some m.cls := findClass_of_methodNamed B.named
  have hlocks := B.notSynchronized
  have hS : va_S (gF G s.heap.size) s.heap s.heap [] := va_S.rf
  have inX3 : ∀ w ∈ u_ws RX3 TX3 22, w ∈ wsX3_closed := by decide +kernel
  have hl := lv_entry ([.ref (gA G 0), .long x]) (n := 6) (Nat.le_of_ble_eq_true rfl)
  rw [lg_entry_eq]
  generalize (lg_sl ([.ref (gA G 0), .long x]) ++ List.replicate (6 - (lg_sl ([.ref (gA G 0), .long x])).length) Slot.unset).toArray = ls at hl ⊢
  have hl : lv_has ls 6 [(0, .ref (gA G 0)), (1, .long x)] := hl
  have LP : ∀ (n : Nat) (k : Nat) (a : Int64), (k + n = 40) → ∀ (ls : Array Slot), lv_has ls 6 [(0, .ref (gA G 0)), (1, .long x), (3, .long a), (5, .int (nI k))] → W p l e (headSpec wsX3_closed ({ frames := 0, cells := 0, slots := 0, locals := 0 } : Room)).room s m ([.ref (gA G 0), .long x] : List Value).toArray below meth c s.heap [] 0 0 (MQ below (vp_Sl (fun r => r = mclG S x n k a)) ([.ref (gA G 0), .long x] : List Value).toArray s 0 0 (fun _ => False)) (F0 m 5 ls []) := by
    intro n
    induction n with
    | zero =>
      intro k a h2 ls hl
      refine lv_iload hx hb dX3_closed_5 (lv_at hl 3 rfl) ?_
      refine lv_bipush (v := nI 40) hx hb dX3_closed_7 (by decide) ?_
      refine nv_icmp_ge (tgt := 43) hx hb (by omega) (by omega) dX3_closed_9 (by decide) (fun c_9 => ?_) (fun c_9 => ?_)
      · refine lv_lload_n hx hb dX3_closed_43 rfl (lv_at hl 2 rfl) ?_
        exact W.lret (v := a) hx hb hr (fun t9 ht9 _ => ⟨_, rfl, rfl, ht9⟩) (fun _ h => by cases h) dX3_closed_44
      · exact absurd c_9 (by omega)
    | succ n ih =>
      intro k a h2 ls hl
      refine lv_iload hx hb dX3_closed_5 (lv_at hl 3 rfl) ?_
      refine lv_bipush (v := nI 40) hx hb dX3_closed_7 (by decide) ?_
      refine nv_icmp_ge (tgt := 43) hx hb (by omega) (by omega) dX3_closed_9 (by decide) (fun c_9 => ?_) (fun c_9 => ?_)
      · exact absurd c_9 (by omega)
      · refine lv_lload_n hx hb dX3_closed_12 rfl (lv_at hl 2 rfl) ?_
        refine lv_lload_n hx hb dX3_closed_13 rfl (lv_at hl 1 rfl) ?_
        refine lv_iload hx hb dX3_closed_14 (lv_at hl 3 rfl) ?_
        refine lv_lshr (v := x >>> ((nI k).toInt64 &&& 63)) hx hb dX3_closed_16 rfl ?_
        refine lv_lconst (v := 1) hx hb dX3_closed_17 (by decide) ?_
        refine lv_land hx hb dX3_closed_18 ?_
        refine lv_lconst (v := 1) hx hb dX3_closed_19 (by decide) ?_
        refine W.lcmp hx hb dX3_closed_20 ?_
        refine cv_if_ne (tgt := 34) hx hb dX3_closed_21 (by decide) (fun c_21 => ?_) (fun c_21 => ?_)
        · refine lv_lconst (v := 0) hx hb dX3_closed_34 (by decide) ?_
          refine lv_lor hx hb dX3_closed_35 ?_
          refine lv_lstore_n (lv' := [(3, .long (a ||| 0)), (0, .ref (gA G 0)), (1, .long x), (5, .int (nI k))]) hx hb dX3_closed_36 rfl hl (by decide) rfl (fun ls hl => ?_)
          refine lv_iinc (v := nI (k + 1)) (lv' := [(5, .int (nI (k + 1))), (3, .long (a ||| 0)), (0, .ref (gA G 0)), (1, .long x)]) hx hb dX3_closed_37 hl (k := 3) rfl (nI_add k 1) (by decide) rfl (fun ls hl => ?_)
          refine lv_goto (tgt := 5) hx hb dX3_closed_40 (by decide) ?_
          have E : mclG S x (n + 1) k a = mclG S x n (k + 1) (a ||| 0) := by rw [mclG, if_neg (fun z => c_21 ((tb_shr1 _ (by omega)).mpr z))]
          rw [E]
          exact ih (k + 1) _ (by omega) ls (lv_sub hl [2, 3, 1, 0] rfl)
        · refine lv_aload_n hx hb dX3_closed_24 rfl (lv_at hl 0 rfl) ?_
          refine va_get (D := gD G) (ci := 3) (v := .ref (gA G 1)) (C := RX3) (T := TX3) (N := 22) hx hb hts inX3 hown hK.1 hW 0 mw_0 rfl 2 (by decide) (hts (.fieldLink RX3 13 "MarkedTreesModel" "ancestors" "[J") (by decide +kernel)) (fun _ h9 => h9) rfl dX3_closed_25 ?_
          refine lv_iload hx hb dX3_closed_28 (lv_at hl 3 rfl) ?_
          refine nv_lald hx hb hK.1 hW 1 1 mw_1 rfl (i := k) (by omega) (by decide) dX3_closed_30 ?_
          refine lv_goto (tgt := 35) hx hb dX3_closed_31 (by decide) ?_
          refine lv_lor hx hb dX3_closed_35 ?_
          refine lv_lstore_n (lv' := [(3, .long (a ||| (S.2 1 k))), (0, .ref (gA G 0)), (1, .long x), (5, .int (nI k))]) hx hb dX3_closed_36 rfl hl (by decide) rfl (fun ls hl => ?_)
          refine lv_iinc (v := nI (k + 1)) (lv' := [(5, .int (nI (k + 1))), (3, .long (a ||| (S.2 1 k))), (0, .ref (gA G 0)), (1, .long x)]) hx hb dX3_closed_37 hl (k := 3) rfl (nI_add k 1) (by decide) rfl (fun ls hl => ?_)
          refine lv_goto (tgt := 5) hx hb dX3_closed_40 (by decide) ?_
          have E : mclG S x (n + 1) k a = mclG S x n (k + 1) (a ||| (S.2 1 k)) := by rw [mclG, if_pos ((tb_shr1 _ (by omega)).mp c_21)]
          rw [E]
          exact ih (k + 1) _ (by omega) ls (lv_sub hl [2, 3, 1, 0] rfl)
  refine lv_lload_n hx hb dX3_closed_0 rfl (lv_at hl 1 rfl) ?_
  refine lv_lstore_n (lv' := [(3, .long x), (0, .ref (gA G 0)), (1, .long x)]) hx hb dX3_closed_1 rfl hl (by decide) rfl (fun ls hl => ?_)
  refine lv_iconst (v := nI 0) hx hb dX3_closed_2 (by decide) ?_
  refine lv_istore (lv' := [(5, .int (nI 0)), (3, .long x), (0, .ref (gA G 0)), (1, .long x)]) hx hb dX3_closed_3 hl (by decide) rfl (fun ls hl => ?_)
  exact LP 40 0 x (by omega) ls (lv_sub hl [2, 3, 1, 0] rfl)

set_option maxHeartbeats 4000000 in
set_option maxRecDepth 100000 in
theorem k_X3_itself (l : Launch) (G : GT) (S : SS) {a b n k : Nat} (ha : a < 40) (hb4 : b < 40) (hn : n < 16) (hk : k < 3) : Met l yX3_itself wsX3_itself ({ frames := 1, cells := 0, slots := 0, locals := 26 } : Room) (va_Pc [.ref (gA G 0), .int (nI a), .int (nI b), .int (nI n), .int (nI k)] (mP G S)) (vp_Si (fun r => r = itI S a b n k)) 0 0 (fun _ => False) := by
  refine Met.ofW (cc := cX3_itself) (maxL := 9) (ret := (some .int)) (by decide) rfl ?_
  intro p e s m args below meth c s₁ B hml hv
  obtain ⟨rfl, hW, hK⟩ := hv
  have hx := B.exec
  have hb := B.bytes
  have hr := B.returns
  have hts := atoms_spec (ws := wsX3_itself) B.pre
  have hown : s.vm.findClass RX3 = some m.cls := findClass_of_methodNamed B.named
  have hlocks := B.notSynchronized
  have hS : va_S (gF G s.heap.size) s.heap s.heap [] := va_S.rf
  have inX3 : ∀ w ∈ u_ws RX3 TX3 22, w ∈ wsX3_itself := by decide +kernel
  have hl := lv_entry ([.ref (gA G 0), .int (nI a), .int (nI b), .int (nI n), .int (nI k)]) (n := 9) (Nat.le_of_ble_eq_true rfl)
  rw [lg_entry_eq]
  generalize (lg_sl ([.ref (gA G 0), .int (nI a), .int (nI b), .int (nI n), .int (nI k)]) ++ List.replicate (9 - (lg_sl ([.ref (gA G 0), .int (nI a), .int (nI b), .int (nI n), .int (nI k)])).length) Slot.unset).toArray = ls at hl ⊢
  have hl : lv_has ls 9 [(0, .ref (gA G 0)), (1, .int (nI a)), (2, .int (nI b)), (3, .int (nI n)), (4, .int (nI k))] := hl
  refine lv_aload_n hx hb dX3_itself_0 rfl (lv_at hl 0 rfl) ?_
  refine va_get (D := gD G) (ci := 3) (v := .ref (gA G 9)) (C := RX3) (T := TX3) (N := 22) hx hb hts inX3 hown hK.1 hW 0 mw_0 rfl 11 (by decide) (hts (.fieldLink RX3 43 "MarkedTreesModel" "marks" "[J") (by decide +kernel)) (fun _ h9 => h9) rfl dX3_itself_1 ?_
  refine lv_bipush (v := nI 48) hx hb dX3_itself_4 (by decide) ?_
  refine lv_iload_n hx hb dX3_itself_6 rfl (lv_at hl 1 rfl) ?_
  refine nv_imul hx hb dX3_itself_7 ?_
  refine lv_iconst (v := nI 3) hx hb dX3_itself_8 (by decide) ?_
  refine lv_iload_n hx hb dX3_itself_9 rfl (lv_at hl 3 rfl) ?_
  refine nv_imul hx hb dX3_itself_10 ?_
  refine nv_iadd hx hb dX3_itself_11 ?_
  refine lv_iload hx hb dX3_itself_12 (lv_at hl 4 rfl) ?_
  refine nv_iadd hx hb dX3_itself_14 ?_
  refine nv_lald hx hb hK.1 hW 9 1 mw_9 rfl (i := ((48 * a) + (3 * n)) + k) (by omega) (by decide) dX3_itself_15 ?_
  refine lv_lstore (lv' := [(5, .long (S.2 9 (((48 * a) + (3 * n)) + k))), (0, .ref (gA G 0)), (1, .int (nI a)), (2, .int (nI b)), (3, .int (nI n)), (4, .int (nI k))]) hx hb dX3_itself_16 hl (by decide) rfl (fun ls hl => ?_)
  refine lv_aload_n hx hb dX3_itself_18 rfl (lv_at hl 1 rfl) ?_
  refine va_get (D := gD G) (ci := 3) (v := .ref (gA G 9)) (C := RX3) (T := TX3) (N := 22) hx hb hts inX3 hown hK.1 hW 0 mw_0 rfl 11 (by decide) (hts (.fieldLink RX3 43 "MarkedTreesModel" "marks" "[J") (by decide +kernel)) (fun _ h9 => h9) rfl dX3_itself_19 ?_
  refine lv_bipush (v := nI 48) hx hb dX3_itself_22 (by decide) ?_
  refine lv_iload_n hx hb dX3_itself_24 rfl (lv_at hl 3 rfl) ?_
  refine nv_imul hx hb dX3_itself_25 ?_
  refine lv_iconst (v := nI 3) hx hb dX3_itself_26 (by decide) ?_
  refine lv_iload_n hx hb dX3_itself_27 rfl (lv_at hl 4 rfl) ?_
  refine nv_imul hx hb dX3_itself_28 ?_
  refine nv_iadd hx hb dX3_itself_29 ?_
  refine lv_iload hx hb dX3_itself_30 (lv_at hl 5 rfl) ?_
  refine nv_iadd hx hb dX3_itself_32 ?_
  refine nv_lald hx hb hK.1 hW 9 1 mw_9 rfl (i := ((48 * b) + (3 * n)) + k) (by omega) (by decide) dX3_itself_33 ?_
  refine lv_lstore (lv' := [(7, .long (S.2 9 (((48 * b) + (3 * n)) + k))), (5, .long (S.2 9 (((48 * a) + (3 * n)) + k))), (0, .ref (gA G 0)), (1, .int (nI a)), (2, .int (nI b)), (3, .int (nI n)), (4, .int (nI k))]) hx hb dX3_itself_34 hl (by decide) rfl (fun ls hl => ?_)
  refine lv_aload_n hx hb dX3_itself_36 rfl (lv_at hl 2 rfl) ?_
  refine lv_iload_n hx hb dX3_itself_37 rfl (lv_at hl 3 rfl) ?_
  refine lv_iload_n hx hb dX3_itself_38 rfl (lv_at hl 4 rfl) ?_
  refine lv_iload_n hx hb dX3_itself_39 rfl (lv_at hl 5 rfl) ?_
  refine lv_iload hx hb dX3_itself_40 (lv_at hl 6 rfl) ?_
  refine pv_i (va_runV (As := [.int (nI a), .int (nI b), .int (nI n), .int (nI k)]) (rest := []) ⟨hx, hb, hml, hown, hts⟩ (k_X3_same l G S (t := a) (u := b) (n := n) (k := k) (by omega) (by omega) (by omega) (by omega)) (cwV 4 hts gX3_itself_X3_same rfl rfl rfl (by decide +kernel) ⟨Nat.le_of_ble_eq_true rfl, Nat.le_of_ble_eq_true rfl⟩) ⟨mP_blind, m_recv hW hK, mP_at hW hK hS⟩ rfl rfl hl.1 rfl (lv_room (Nat.le_of_ble_eq_true rfl)) dX3_itself_42 ⟨Nat.le_of_ble_eq_true rfl, Nat.le_of_ble_eq_true rfl⟩) (fun r_1 hr_1 => ?_)
  have hr_1 : r_1 = bI (sameM S a b n k) := hr_1
  subst hr_1
  refine bv_if_eq (b := sameM S a b n k) (tgt := 52) hx hb dX3_itself_45 (by decide) (fun c_45 => ?_) (fun c_45 => ?_)
  · refine lv_aload_n hx hb dX3_itself_52 rfl (lv_at hl 2 rfl) ?_
    refine lv_lload hx hb dX3_itself_53 (lv_at hl 1 rfl) ?_
    refine lv_iload_n hx hb dX3_itself_55 rfl (lv_at hl 4 rfl) ?_
    refine pv_i (va_runV (As := [.long (S.2 9 (((48 * a) + (3 * n)) + k)), .int (nI b)]) (rest := []) ⟨hx, hb, hml, hown, hts⟩ (k_X3_allKnown l G S (S.2 9 (((48 * a) + (3 * n)) + k)) (r0 := b) (by omega)) (cwV 2 hts gX3_itself_X3_allKnown rfl rfl rfl (by decide +kernel) ⟨Nat.le_of_ble_eq_true rfl, Nat.le_of_ble_eq_true rfl⟩) ⟨mP_blind, m_recv hW hK, mP_at hW hK hS⟩ rfl rfl hl.1 rfl (lv_room (Nat.le_of_ble_eq_true rfl)) dX3_itself_56 ⟨Nat.le_of_ble_eq_true rfl, Nat.le_of_ble_eq_true rfl⟩) (fun r_2 hr_2 => ?_)
    have hr_2 : r_2 = bI (mAK S (S.2 9 (((48 * a) + (3 * n)) + k)) b) := hr_2
    subst hr_2
    refine bv_if_eq (b := mAK S (S.2 9 (((48 * a) + (3 * n)) + k)) b) (tgt := 66) hx hb dX3_itself_59 (by decide) (fun c_59 => ?_) (fun c_59 => ?_)
    · refine lv_aload_n hx hb dX3_itself_66 rfl (lv_at hl 2 rfl) ?_
      refine lv_lload hx hb dX3_itself_67 (lv_at hl 0 rfl) ?_
      refine lv_iload_n hx hb dX3_itself_69 rfl (lv_at hl 3 rfl) ?_
      refine pv_i (va_runV (As := [.long (S.2 9 (((48 * b) + (3 * n)) + k)), .int (nI a)]) (rest := []) ⟨hx, hb, hml, hown, hts⟩ (k_X3_allKnown l G S (S.2 9 (((48 * b) + (3 * n)) + k)) (r0 := a) (by omega)) (cwV 2 hts gX3_itself_X3_allKnown rfl rfl rfl (by decide +kernel) ⟨Nat.le_of_ble_eq_true rfl, Nat.le_of_ble_eq_true rfl⟩) ⟨mP_blind, m_recv hW hK, mP_at hW hK hS⟩ rfl rfl hl.1 rfl (lv_room (Nat.le_of_ble_eq_true rfl)) dX3_itself_70 ⟨Nat.le_of_ble_eq_true rfl, Nat.le_of_ble_eq_true rfl⟩) (fun r_3 hr_3 => ?_)
      have hr_3 : r_3 = bI (mAK S (S.2 9 (((48 * b) + (3 * n)) + k)) a) := hr_3
      subst hr_3
      refine bv_if_eq (b := mAK S (S.2 9 (((48 * b) + (3 * n)) + k)) a) (tgt := 80) hx hb dX3_itself_73 (by decide) (fun c_73 => ?_) (fun c_73 => ?_)
      · refine lv_iconst (v := (-1)) hx hb dX3_itself_80 (by decide) ?_
        exact W.iret (v := (-1)) hx hb hr (fun t9 ht9 _ => ⟨_, rfl, (by rw [itI, if_neg (ne_true_of_eq_false c_45), if_neg (ne_true_of_eq_false c_59), if_neg (ne_true_of_eq_false c_73)]), ht9⟩) (fun _ h => by cases h) dX3_itself_81
      · refine lv_iconst (v := nI 0) hx hb dX3_itself_76 (by decide) ?_
        refine lv_goto (tgt := 81) hx hb dX3_itself_77 (by decide) ?_
        exact W.iret (v := nI 0) hx hb hr (fun t9 ht9 _ => ⟨_, rfl, (by rw [itI, if_neg (ne_true_of_eq_false c_45), if_neg (ne_true_of_eq_false c_59), if_pos c_73]), ht9⟩) (fun _ h => by cases h) dX3_itself_81
    · refine lv_iconst (v := nI 1) hx hb dX3_itself_62 (by decide) ?_
      refine lv_goto (tgt := 81) hx hb dX3_itself_63 (by decide) ?_
      exact W.iret (v := nI 1) hx hb hr (fun t9 ht9 _ => ⟨_, rfl, (by rw [itI, if_neg (ne_true_of_eq_false c_45), if_pos c_59]), ht9⟩) (fun _ h => by cases h) dX3_itself_81
  · refine lv_iconst (v := nI 2) hx hb dX3_itself_48 (by decide) ?_
    refine lv_goto (tgt := 81) hx hb dX3_itself_49 (by decide) ?_
    exact W.iret (v := nI 2) hx hb hr (fun t9 ht9 _ => ⟨_, rfl, (by rw [itI, if_pos c_45]), ht9⟩) (fun _ h => by cases h) dX3_itself_81

set_option maxHeartbeats 4000000 in
set_option maxRecDepth 100000 in
theorem k_X3_placed (l : Launch) (G : GT) (S : SS) {n : Nat} (hn : n < 16) : Met l yX3_placed wsX3_placed ({ frames := 0, cells := 0, slots := 0, locals := 0 } : Room) (va_Pc [.ref (gA G 0), .int (nI n)] (mP G S)) (vp_Si (fun r => r = bI (!ti (S.1 19 n) 0))) 0 0 (fun _ => False) := by
  refine Met.ofW (cc := cX3_placed) (maxL := 2) (ret := (some .boolean)) (by decide) rfl ?_
  intro p e s m args below meth c s₁ B hml hv
  obtain ⟨rfl, hW, hK⟩ := hv
  have hx := B.exec
  have hb := B.bytes
  have hr := B.returns
  have hts := atoms_spec (ws := wsX3_placed) B.pre
  have hown : s.vm.findClass RX3 = some m.cls := findClass_of_methodNamed B.named
  have hlocks := B.notSynchronized
  have hS : va_S (gF G s.heap.size) s.heap s.heap [] := va_S.rf
  have inX3 : ∀ w ∈ u_ws RX3 TX3 22, w ∈ wsX3_placed := by decide +kernel
  have hl := lv_entry ([.ref (gA G 0), .int (nI n)]) (n := 2) (Nat.le_of_ble_eq_true rfl)
  rw [lg_entry_eq]
  generalize (lg_sl ([.ref (gA G 0), .int (nI n)]) ++ List.replicate (2 - (lg_sl ([.ref (gA G 0), .int (nI n)])).length) Slot.unset).toArray = ls at hl ⊢
  have hl : lv_has ls 2 [(0, .ref (gA G 0)), (1, .int (nI n))] := hl
  refine lv_aload_n hx hb dX3_placed_0 rfl (lv_at hl 0 rfl) ?_
  refine va_get (D := gD G) (ci := 3) (v := .ref (gA G 19)) (C := RX3) (T := TX3) (N := 22) hx hb hts inX3 hown hK.1 hW 0 mw_0 rfl 21 (by decide) (hts (.fieldLink RX3 73 "MarkedTreesModel" "open" "[I") (by decide +kernel)) (fun _ h9 => h9) rfl dX3_placed_1 ?_
  refine lv_iload_n hx hb dX3_placed_4 rfl (lv_at hl 1 rfl) ?_
  refine nv_iald hx hb hK.1 hW 19 0 mw_19 rfl (i := n) (by omega) (by decide) dX3_placed_5 ?_
  refine lv_iconst (v := nI 1) hx hb dX3_placed_6 (by decide) ?_
  refine lv_iand hx hb dX3_placed_7 ?_
  refine lv_if_ne (tgt := 15) hx hb dX3_placed_8 (by decide) (fun c_8 => ?_) (fun c_8 => ?_)
  · refine lv_iconst (v := nI 0) hx hb dX3_placed_15 (by decide) ?_
    exact W.zret (v := nI 0) hx hb hr rfl (fun t9 ht9 _ => ⟨_, rfl, (bI_i0 (by cases h9 : ti (S.1 19 n) 0; exact absurd ((ti_and0 _).mpr h9) c_8; rfl)), ht9⟩) (fun _ h => by cases h) dX3_placed_16
  · refine lv_iconst (v := nI 1) hx hb dX3_placed_11 (by decide) ?_
    refine lv_goto (tgt := 16) hx hb dX3_placed_12 (by decide) ?_
    exact W.zret (v := nI 1) hx hb hr rfl (fun t9 ht9 _ => ⟨_, rfl, (bI_i1 (by rw [(ti_and0 _).mp c_8]; rfl)), ht9⟩) (fun _ h => by cases h) dX3_placed_16

set_option maxHeartbeats 4000000 in
set_option maxRecDepth 100000 in
theorem k_X3_comesBack (l : Launch) (G : GT) (S : SS) {n : Nat} (hn : n < 16) : Met l yX3_comesBack wsX3_comesBack ({ frames := 2, cells := 0, slots := 0, locals := 44 } : Room) (va_Pc [.ref (gA G 0), .int (nI n)] (mP G S)) (vp_Si (fun r => r = bI (cbG S n 17 (S.1 5 (672 + n))))) 0 0 (fun _ => False) := by
  refine Met.ofW (cc := cX3_comesBack) (maxL := 4) (ret := (some .boolean)) (by decide) rfl ?_
  intro p e s m args below meth c s₁ B hml hv
  obtain ⟨rfl, hW, hK⟩ := hv
  have hx := B.exec
  have hb := B.bytes
  have hr := B.returns
  have hts := atoms_spec (ws := wsX3_comesBack) B.pre
  have hown : s.vm.findClass RX3 = some m.cls := findClass_of_methodNamed B.named
  have hlocks := B.notSynchronized
  have hS : va_S (gF G s.heap.size) s.heap s.heap [] := va_S.rf
  have inX3 : ∀ w ∈ u_ws RX3 TX3 22, w ∈ wsX3_comesBack := by decide +kernel
  have hl := lv_entry ([.ref (gA G 0), .int (nI n)]) (n := 4) (Nat.le_of_ble_eq_true rfl)
  rw [lg_entry_eq]
  generalize (lg_sl ([.ref (gA G 0), .int (nI n)]) ++ List.replicate (4 - (lg_sl ([.ref (gA G 0), .int (nI n)])).length) Slot.unset).toArray = ls at hl ⊢
  have hl : lv_has ls 4 [(0, .ref (gA G 0)), (1, .int (nI n))] := hl
  have LP : ∀ (k : Nat) (i : Nat) (a : Int32), (i + k = 17) → ∀ (ls : Array Slot), lv_has ls 4 [(0, .ref (gA G 0)), (1, .int (nI n)), (2, .int a), (3, .int (nI i))] → W p l e (headSpec wsX3_comesBack ({ frames := 2, cells := 0, slots := 0, locals := 44 } : Room)).room s m ([.ref (gA G 0), .int (nI n)] : List Value).toArray below meth c s.heap [] 0 0 (MQ below (vp_Si (fun r => r = bI (cbG S n k a))) ([.ref (gA G 0), .int (nI n)] : List Value).toArray s 0 0 (fun _ => False)) (F0 m 13 ls []) := by
    intro k
    induction k with
    | zero =>
      intro i a h2 ls hl
      refine lv_iload_n hx hb dX3_comesBack_13 rfl (lv_at hl 3 rfl) ?_
      refine lv_bipush (v := nI 17) hx hb dX3_comesBack_14 (by decide) ?_
      refine nv_icmp_ge (tgt := 67) hx hb (by omega) (by omega) dX3_comesBack_16 (by decide) (fun c_16 => ?_) (fun c_16 => ?_)
      · refine lv_iconst (v := nI 0) hx hb dX3_comesBack_67 (by decide) ?_
        exact W.zret (v := nI 0) hx hb hr rfl (fun t9 ht9 _ => ⟨_, rfl, (bI_i0 rfl), ht9⟩) (fun _ h => by cases h) dX3_comesBack_68
      · exact absurd c_16 (by omega)
    | succ k ih =>
      intro i a h2 ls hl
      refine lv_iload_n hx hb dX3_comesBack_13 rfl (lv_at hl 3 rfl) ?_
      refine lv_bipush (v := nI 17) hx hb dX3_comesBack_14 (by decide) ?_
      refine nv_icmp_ge (tgt := 67) hx hb (by omega) (by omega) dX3_comesBack_16 (by decide) (fun c_16 => ?_) (fun c_16 => ?_)
      · exact absurd c_16 (by omega)
      · refine lv_iload_n hx hb dX3_comesBack_19 rfl (lv_at hl 2 rfl) ?_
        refine lv_iload_n hx hb dX3_comesBack_20 rfl (lv_at hl 1 rfl) ?_
        refine lv_icmp_ne (tgt := 26) hx hb dX3_comesBack_21 (by decide) (fun c_21 => ?_) (fun c_21 => ?_)
        · refine lv_iload_n hx hb dX3_comesBack_26 rfl (lv_at hl 2 rfl) ?_
          refine lv_if_le (tgt := 48) hx hb dX3_comesBack_27 (by decide) (fun c_27 => ?_) (fun c_27 => ?_)
          · refine lv_iconst (v := nI 0) hx hb dX3_comesBack_48 (by decide) ?_
            exact W.zret (v := nI 0) hx hb hr rfl (fun t9 ht9 _ => ⟨_, rfl, (bI_i0 (by rw [cbG, if_neg c_21, if_pos c_27])), ht9⟩) (fun _ h => by cases h) dX3_comesBack_49
          · refine lv_aload_n hx hb dX3_comesBack_30 rfl (lv_at hl 0 rfl) ?_
            refine lv_bipush (v := nI 42) hx hb dX3_comesBack_31 (by decide) ?_
            refine lv_iload_n hx hb dX3_comesBack_33 rfl (lv_at hl 2 rfl) ?_
            refine pv_i (va_runV (As := [.int (nI 42), .int a]) (rest := []) ⟨hx, hb, hml, hown, hts⟩ (k_X3_isAlive l G S (t := 42) (by omega) a) (cwV 2 hts gX3_comesBack_X3_isAlive rfl rfl rfl (by decide +kernel) ⟨Nat.le_of_ble_eq_true rfl, Nat.le_of_ble_eq_true rfl⟩) ⟨mP_blind, m_recv hW hK, mP_at hW hK hS⟩ rfl rfl hl.1 rfl (lv_room (Nat.le_of_ble_eq_true rfl)) dX3_comesBack_34 ⟨Nat.le_of_ble_eq_true rfl, Nat.le_of_ble_eq_true rfl⟩) (fun r_1 hr_1 => ?_)
            subst hr_1
            refine bv_if_eq (b := mAl S 42 a) (tgt := 48) hx hb dX3_comesBack_37 (by decide) (fun c_37 => ?_) (fun c_37 => ?_)
            · refine lv_iconst (v := nI 0) hx hb dX3_comesBack_48 (by decide) ?_
              exact W.zret (v := nI 0) hx hb hr rfl (fun t9 ht9 _ => ⟨_, rfl, (bI_i0 (by rw [cbG, if_neg c_21, if_neg c_27, if_neg (ne_true_of_eq_false c_37)])), ht9⟩) (fun _ h => by cases h) dX3_comesBack_49
            · obtain ⟨j, hj, rfl⟩ := mAl_of c_37
              have cj : cn (nI j) = j := cn_nI (by omega)
              refine lv_aload_n hx hb dX3_comesBack_40 rfl (lv_at hl 0 rfl) ?_
              refine lv_iload_n hx hb dX3_comesBack_41 rfl (lv_at hl 2 rfl) ?_
              refine pv_i (va_runV (As := [.int (nI j)]) (rest := []) ⟨hx, hb, hml, hown, hts⟩ (k_X3_placed l G S (n := j) (by omega)) (cwV 1 hts gX3_comesBack_X3_placed rfl rfl rfl (by decide +kernel) ⟨Nat.le_of_ble_eq_true rfl, Nat.le_of_ble_eq_true rfl⟩) ⟨mP_blind, m_recv hW hK, mP_at hW hK hS⟩ rfl rfl hl.1 rfl (lv_room (Nat.le_of_ble_eq_true rfl)) dX3_comesBack_42 ⟨Nat.le_of_ble_eq_true rfl, Nat.le_of_ble_eq_true rfl⟩) (fun r_2 hr_2 => ?_)
              have hr_2 : r_2 = bI (!ti (S.1 19 j) 0) := hr_2
              subst hr_2
              refine bv_if_ne (b := !ti (S.1 19 j) 0) (tgt := 50) hx hb dX3_comesBack_45 (by decide) (fun c_45 => ?_) (fun c_45 => ?_)
              · refine lv_aload_n hx hb dX3_comesBack_50 rfl (lv_at hl 0 rfl) ?_
                refine va_get (D := gD G) (ci := 3) (v := .ref (gA G 5)) (C := RX3) (T := TX3) (N := 22) hx hb hts inX3 hown hK.1 hW 0 mw_0 rfl 7 (by decide) (hts (.fieldLink RX3 31 "MarkedTreesModel" "parent" "[I") (by decide +kernel)) (fun _ h9 => h9) rfl dX3_comesBack_51 ?_
                refine lv_sipush (v := nI 672) hx hb dX3_comesBack_54 (by decide) ?_
                refine lv_iload_n hx hb dX3_comesBack_57 rfl (lv_at hl 2 rfl) ?_
                refine nv_iadd hx hb dX3_comesBack_58 ?_
                refine nv_iald hx hb hK.1 hW 5 0 mw_5 rfl (i := 672 + j) (by omega) (by decide) dX3_comesBack_59 ?_
                refine lv_istore_n (lv' := [(2, .int (S.1 5 (672 + j))), (0, .ref (gA G 0)), (1, .int (nI n)), (3, .int (nI i))]) hx hb dX3_comesBack_60 rfl hl (by decide) rfl (fun ls hl => ?_)
                refine lv_iinc (v := nI (i + 1)) (lv' := [(3, .int (nI (i + 1))), (2, .int (S.1 5 (672 + j))), (0, .ref (gA G 0)), (1, .int (nI n))]) hx hb dX3_comesBack_61 hl (k := 3) rfl (nI_add i 1) (by decide) rfl (fun ls hl => ?_)
                refine lv_goto (tgt := 13) hx hb dX3_comesBack_64 (by decide) ?_
                have E : cbG S n (k + 1) (nI j) = cbG S n k (S.1 5 (672 + j)) := by rw [cbG, if_neg c_21, if_neg c_27, if_pos c_37, cj, if_pos (by cases h9 : ti (S.1 19 j) 0; rfl; rw [h9] at c_45; cases c_45)]
                rw [E]
                exact ih (i + 1) _ (by omega) ls (lv_sub hl [2, 3, 1, 0] rfl)
              · refine lv_iconst (v := nI 0) hx hb dX3_comesBack_48 (by decide) ?_
                exact W.zret (v := nI 0) hx hb hr rfl (fun t9 ht9 _ => ⟨_, rfl, (bI_i0 (by rw [cbG, if_neg c_21, if_neg c_27, if_pos c_37, cj, if_neg (by intro z; rw [z] at c_45; cases c_45)])), ht9⟩) (fun _ h => by cases h) dX3_comesBack_49
        · refine lv_iconst (v := nI 1) hx hb dX3_comesBack_24 (by decide) ?_
          exact W.zret (v := nI 1) hx hb hr rfl (fun t9 ht9 _ => ⟨_, rfl, (bI_i1 (by rw [cbG, if_pos c_21])), ht9⟩) (fun _ h => by cases h) dX3_comesBack_25
  refine lv_aload_n hx hb dX3_comesBack_0 rfl (lv_at hl 0 rfl) ?_
  refine va_get (D := gD G) (ci := 3) (v := .ref (gA G 5)) (C := RX3) (T := TX3) (N := 22) hx hb hts inX3 hown hK.1 hW 0 mw_0 rfl 7 (by decide) (hts (.fieldLink RX3 31 "MarkedTreesModel" "parent" "[I") (by decide +kernel)) (fun _ h9 => h9) rfl dX3_comesBack_1 ?_
  refine lv_sipush (v := nI 672) hx hb dX3_comesBack_4 (by decide) ?_
  refine lv_iload_n hx hb dX3_comesBack_7 rfl (lv_at hl 1 rfl) ?_
  refine nv_iadd hx hb dX3_comesBack_8 ?_
  refine nv_iald hx hb hK.1 hW 5 0 mw_5 rfl (i := 672 + n) (by omega) (by decide) dX3_comesBack_9 ?_
  refine lv_istore_n (lv' := [(2, .int (S.1 5 (672 + n))), (0, .ref (gA G 0)), (1, .int (nI n))]) hx hb dX3_comesBack_10 rfl hl (by decide) rfl (fun ls hl => ?_)
  refine lv_iconst (v := nI 0) hx hb dX3_comesBack_11 (by decide) ?_
  refine lv_istore_n (lv' := [(3, .int (nI 0)), (2, .int (S.1 5 (672 + n))), (0, .ref (gA G 0)), (1, .int (nI n))]) hx hb dX3_comesBack_12 rfl hl (by decide) rfl (fun ls hl => ?_)
  exact LP 17 0 _ (by omega) ls (lv_sub hl [2, 3, 1, 0] rfl)

set_option maxHeartbeats 4000000 in
set_option maxRecDepth 100000 in
theorem k_X3_members (l : Launch) (G : GT) (S : SS) {i : Nat} (hi : i < 2) {b : Nat} (hb3 : b < 3) : Met l yX3_members wsX3_members ({ frames := 0, cells := 0, slots := 0, locals := 0 } : Room) (va_Pc [.ref (gA G 0), .int (nI i), .int (nI b)] (mP G S)) (vp_Sl (fun r => r = mmG S i b 4 0 0)) 0 0 (fun _ => False) := by
  refine Met.ofW (cc := cX3_members) (maxL := 6) (ret := (some .long)) (by decide) rfl ?_
  intro p e s m args below meth c s₁ B hml hv
  obtain ⟨rfl, hW, hK⟩ := hv
  have hx := B.exec
  have hb := B.bytes
  have hr := B.returns
  have hts := atoms_spec (ws := wsX3_members) B.pre
  have hown : s.vm.findClass RX3 = some m.cls := findClass_of_methodNamed B.named
  have hlocks := B.notSynchronized
  have hS : va_S (gF G s.heap.size) s.heap s.heap [] := va_S.rf
  have inX3 : ∀ w ∈ u_ws RX3 TX3 22, w ∈ wsX3_members := by decide +kernel
  have hl := lv_entry ([.ref (gA G 0), .int (nI i), .int (nI b)]) (n := 6) (Nat.le_of_ble_eq_true rfl)
  rw [lg_entry_eq]
  generalize (lg_sl ([.ref (gA G 0), .int (nI i), .int (nI b)]) ++ List.replicate (6 - (lg_sl ([.ref (gA G 0), .int (nI i), .int (nI b)])).length) Slot.unset).toArray = ls at hl ⊢
  have hl : lv_has ls 6 [(0, .ref (gA G 0)), (1, .int (nI i)), (2, .int (nI b))] := hl
  have LP : ∀ (n : Nat) (k : Nat) (x : Int64), (k + n = 4) → ∀ (ls : Array Slot), lv_has ls 6 [(0, .ref (gA G 0)), (1, .int (nI i)), (2, .int (nI b)), (3, .long x), (5, .int (nI k))] → W p l e (headSpec wsX3_members ({ frames := 0, cells := 0, slots := 0, locals := 0 } : Room)).room s m ([.ref (gA G 0), .int (nI i), .int (nI b)] : List Value).toArray below meth c s.heap [] 0 0 (MQ below (vp_Sl (fun r => r = mmG S i b n k x)) ([.ref (gA G 0), .int (nI i), .int (nI b)] : List Value).toArray s 0 0 (fun _ => False)) (F0 m 5 ls []) := by
    intro n
    induction n with
    | zero =>
      intro k x h2 ls hl
      refine lv_iload hx hb dX3_members_5 (lv_at hl 4 rfl) ?_
      refine lv_iconst (v := nI 4) hx hb dX3_members_7 (by decide) ?_
      refine nv_icmp_ge (tgt := 55) hx hb (by omega) (by omega) dX3_members_8 (by decide) (fun c_8 => ?_) (fun c_8 => ?_)
      · refine lv_lload_n hx hb dX3_members_55 rfl (lv_at hl 3 rfl) ?_
        exact W.lret (v := x) hx hb hr (fun t9 ht9 _ => ⟨_, rfl, rfl, ht9⟩) (fun _ h => by cases h) dX3_members_56
      · exact absurd c_8 (by omega)
    | succ n ih =>
      intro k x h2 ls hl
      refine lv_iload hx hb dX3_members_5 (lv_at hl 4 rfl) ?_
      refine lv_iconst (v := nI 4) hx hb dX3_members_7 (by decide) ?_
      refine nv_icmp_ge (tgt := 55) hx hb (by omega) (by omega) dX3_members_8 (by decide) (fun c_8 => ?_) (fun c_8 => ?_)
      · exact absurd c_8 (by omega)
      · refine lv_lload_n hx hb dX3_members_11 rfl (lv_at hl 3 rfl) ?_
        refine lv_aload_n hx hb dX3_members_12 rfl (lv_at hl 0 rfl) ?_
        refine va_get (D := gD G) (ci := 3) (v := .ref (gA G 15)) (C := RX3) (T := TX3) (N := 22) hx hb hts inX3 hown hK.1 hW 0 mw_0 rfl 17 (by decide) (hts (.fieldLink RX3 61 "MarkedTreesModel" "trusted" "[I") (by decide +kernel)) (fun _ h9 => h9) rfl dX3_members_13 ?_
        refine lv_iload_n hx hb dX3_members_16 rfl (lv_at hl 1 rfl) ?_
        refine nv_iald hx hb hK.1 hW 15 0 mw_15 rfl (i := i) (by omega) (by decide) dX3_members_17 ?_
        refine lv_iload hx hb dX3_members_18 (lv_at hl 4 rfl) ?_
        refine lv_ishr hx hb dX3_members_20 ?_
        refine lv_iconst (v := nI 1) hx hb dX3_members_21 (by decide) ?_
        refine lv_iand hx hb dX3_members_22 ?_
        refine lv_iconst (v := nI 1) hx hb dX3_members_23 (by decide) ?_
        refine lv_icmp_ne (tgt := 46) hx hb dX3_members_24 (by decide) (fun c_24 => ?_) (fun c_24 => ?_)
        · refine lv_lconst (v := 0) hx hb dX3_members_46 (by decide) ?_
          refine lv_lor hx hb dX3_members_47 ?_
          refine lv_lstore_n (lv' := [(3, .long (x ||| 0)), (0, .ref (gA G 0)), (1, .int (nI i)), (2, .int (nI b)), (5, .int (nI k))]) hx hb dX3_members_48 rfl hl (by decide) rfl (fun ls hl => ?_)
          refine lv_iinc (v := nI (k + 1)) (lv' := [(5, .int (nI (k + 1))), (3, .long (x ||| 0)), (0, .ref (gA G 0)), (1, .int (nI i)), (2, .int (nI b))]) hx hb dX3_members_49 hl (k := 4) rfl (nI_add k 1) (by decide) rfl (fun ls hl => ?_)
          refine lv_goto (tgt := 5) hx hb dX3_members_52 (by decide) ?_
          have E : mmG S i b (n + 1) k x = mmG S i b n (k + 1) (x ||| 0) := by rw [mmG, if_neg (fun z => c_24 ((ti_shr _ (by omega)).mpr z))]
          rw [E]
          exact ih (k + 1) _ (by omega) ls (lv_sub hl [2, 3, 4, 1, 0] rfl)
        · refine lv_aload_n hx hb dX3_members_27 rfl (lv_at hl 0 rfl) ?_
          refine va_get (D := gD G) (ci := 3) (v := .ref (gA G 14)) (C := RX3) (T := TX3) (N := 22) hx hb hts inX3 hown hK.1 hW 0 mw_0 rfl 16 (by decide) (hts (.fieldLink RX3 58 "MarkedTreesModel" "certificates" "[J") (by decide +kernel)) (fun _ h9 => h9) rfl dX3_members_28 ?_
          refine lv_bipush (v := nI 12) hx hb dX3_members_31 (by decide) ?_
          refine lv_iload_n hx hb dX3_members_33 rfl (lv_at hl 1 rfl) ?_
          refine nv_imul hx hb dX3_members_34 ?_
          refine lv_iconst (v := nI 3) hx hb dX3_members_35 (by decide) ?_
          refine lv_iload hx hb dX3_members_36 (lv_at hl 4 rfl) ?_
          refine nv_imul hx hb dX3_members_38 ?_
          refine nv_iadd hx hb dX3_members_39 ?_
          refine lv_iload_n hx hb dX3_members_40 rfl (lv_at hl 2 rfl) ?_
          refine nv_iadd hx hb dX3_members_41 ?_
          refine nv_lald hx hb hK.1 hW 14 1 mw_14 rfl (i := ((12 * i) + (3 * k)) + b) (by omega) (by decide) dX3_members_42 ?_
          refine lv_goto (tgt := 47) hx hb dX3_members_43 (by decide) ?_
          refine lv_lor hx hb dX3_members_47 ?_
          refine lv_lstore_n (lv' := [(3, .long (x ||| (S.2 14 (((12 * i) + (3 * k)) + b)))), (0, .ref (gA G 0)), (1, .int (nI i)), (2, .int (nI b)), (5, .int (nI k))]) hx hb dX3_members_48 rfl hl (by decide) rfl (fun ls hl => ?_)
          refine lv_iinc (v := nI (k + 1)) (lv' := [(5, .int (nI (k + 1))), (3, .long (x ||| (S.2 14 (((12 * i) + (3 * k)) + b)))), (0, .ref (gA G 0)), (1, .int (nI i)), (2, .int (nI b))]) hx hb dX3_members_49 hl (k := 4) rfl (nI_add k 1) (by decide) rfl (fun ls hl => ?_)
          refine lv_goto (tgt := 5) hx hb dX3_members_52 (by decide) ?_
          have E : mmG S i b (n + 1) k x = mmG S i b n (k + 1) (x ||| (S.2 14 (((12 * i) + (3 * k)) + b))) := by rw [mmG, if_pos ((ti_shr _ (by omega)).mp c_24)]
          rw [E]
          exact ih (k + 1) _ (by omega) ls (lv_sub hl [2, 3, 4, 1, 0] rfl)
  refine lv_lconst (v := 0) hx hb dX3_members_0 (by decide) ?_
  refine lv_lstore_n (lv' := [(3, .long 0), (0, .ref (gA G 0)), (1, .int (nI i)), (2, .int (nI b))]) hx hb dX3_members_1 rfl hl (by decide) rfl (fun ls hl => ?_)
  refine lv_iconst (v := nI 0) hx hb dX3_members_2 (by decide) ?_
  refine lv_istore (lv' := [(5, .int (nI 0)), (3, .long 0), (0, .ref (gA G 0)), (1, .int (nI i)), (2, .int (nI b))]) hx hb dX3_members_3 hl (by decide) rfl (fun ls hl => ?_)
  exact LP 4 0 0 (by omega) ls (lv_sub hl [2, 3, 4, 1, 0] rfl)

set_option maxHeartbeats 4000000 in
set_option maxRecDepth 100000 in
theorem k_X3_bits (l : Launch) (x : Int64) : Met l yX3_bits wsX3_bits ({ frames := 0, cells := 0, slots := 0, locals := 0 } : Room) (va_Pc [.long x] (fun _ => True)) (vp_Si (fun r => r = mbG x 64 0 (nI 0))) 0 0 (fun _ => False) := by
  refine Met.ofW (cc := cX3_bits) (maxL := 4) (ret := (some .int)) (by decide) rfl ?_
  intro p e s m args below meth c s₁ B hml hv
  obtain ⟨rfl, -⟩ := hv
  have hx := B.exec
  have hb := B.bytes
  have hr := B.returns
  have hts := atoms_spec (ws := wsX3_bits) B.pre
  have hown : s.vm.findClass RX3 = some m.cls := findClass_of_methodNamed B.named
  have hlocks := B.notSynchronized
  have hl := lv_entry ([.long x]) (n := 4) (Nat.le_of_ble_eq_true rfl)
  rw [lg_entry_eq]
  generalize (lg_sl ([.long x]) ++ List.replicate (4 - (lg_sl ([.long x])).length) Slot.unset).toArray = ls at hl ⊢
  have hl : lv_has ls 4 [(0, .long x)] := hl
  have LP : ∀ (n : Nat) (a : Int32) (k : Nat), (k + n = 64) → ∀ (ls : Array Slot), lv_has ls 4 [(0, .long x), (2, .int a), (3, .int (nI k))] → W p l e (headSpec wsX3_bits ({ frames := 0, cells := 0, slots := 0, locals := 0 } : Room)).room s m ([.long x] : List Value).toArray below meth c s.heap [] 0 0 (MQ below (vp_Si (fun r => r = mbG x n k a)) ([.long x] : List Value).toArray s 0 0 (fun _ => False)) (F0 m 4 ls []) := by
    intro n
    induction n with
    | zero =>
      intro a k h2 ls hl
      refine lv_iload_n hx hb dX3_bits_4 rfl (lv_at hl 2 rfl) ?_
      refine lv_bipush (v := nI 64) hx hb dX3_bits_5 (by decide) ?_
      refine nv_icmp_ge (tgt := 25) hx hb (by omega) (by omega) dX3_bits_7 (by decide) (fun c_7 => ?_) (fun c_7 => ?_)
      · refine lv_iload_n hx hb dX3_bits_25 rfl (lv_at hl 1 rfl) ?_
        exact W.iret (v := a) hx hb hr (fun t9 ht9 _ => ⟨_, rfl, rfl, ht9⟩) (fun _ h => by cases h) dX3_bits_26
      · exact absurd c_7 (by omega)
    | succ n ih =>
      intro a k h2 ls hl
      refine lv_iload_n hx hb dX3_bits_4 rfl (lv_at hl 2 rfl) ?_
      refine lv_bipush (v := nI 64) hx hb dX3_bits_5 (by decide) ?_
      refine nv_icmp_ge (tgt := 25) hx hb (by omega) (by omega) dX3_bits_7 (by decide) (fun c_7 => ?_) (fun c_7 => ?_)
      · exact absurd c_7 (by omega)
      · refine lv_iload_n hx hb dX3_bits_10 rfl (lv_at hl 1 rfl) ?_
        refine lv_lload_n hx hb dX3_bits_11 rfl (lv_at hl 0 rfl) ?_
        refine lv_iload_n hx hb dX3_bits_12 rfl (lv_at hl 2 rfl) ?_
        refine lv_lshr (v := x >>> ((nI k).toInt64 &&& 63)) hx hb dX3_bits_13 rfl ?_
        refine lv_lconst (v := 1) hx hb dX3_bits_14 (by decide) ?_
        refine lv_land hx hb dX3_bits_15 ?_
        refine lv_l2i (v := ((x >>> ((nI k).toInt64 &&& 63)) &&& 1).toInt32) hx hb dX3_bits_16 rfl ?_
        refine lv_iadd hx hb dX3_bits_17 ?_
        refine lv_istore_n (lv' := [(2, .int (a + (((x >>> ((nI k).toInt64 &&& 63)) &&& 1).toInt32))), (0, .long x), (3, .int (nI k))]) hx hb dX3_bits_18 rfl hl (by decide) rfl (fun ls hl => ?_)
        refine lv_iinc (v := nI (k + 1)) (lv' := [(3, .int (nI (k + 1))), (2, .int (a + (((x >>> ((nI k).toInt64 &&& 63)) &&& 1).toInt32))), (0, .long x)]) hx hb dX3_bits_19 hl (k := 2) rfl (nI_add k 1) (by decide) rfl (fun ls hl => ?_)
        refine lv_goto (tgt := 4) hx hb dX3_bits_22 (by decide) ?_
        exact ih _ (k + 1) (by omega) ls (lv_sub hl [2, 1, 0] rfl)
  refine lv_iconst (v := nI 0) hx hb dX3_bits_0 (by decide) ?_
  refine lv_istore_n (lv' := [(2, .int (nI 0)), (0, .long x)]) hx hb dX3_bits_1 rfl hl (by decide) rfl (fun ls hl => ?_)
  refine lv_iconst (v := nI 0) hx hb dX3_bits_2 (by decide) ?_
  refine lv_istore_n (lv' := [(3, .int (nI 0)), (2, .int (nI 0)), (0, .long x)]) hx hb dX3_bits_3 rfl hl (by decide) rfl (fun ls hl => ?_)
  exact LP 64 (nI 0) 0 (by omega) ls (lv_sub hl [2, 1, 0] rfl)

set_option maxHeartbeats 4000000 in
set_option maxRecDepth 100000 in
theorem k_X3_list (l : Launch) (G : GT) (S : SS) (sz : Nat) {i : Nat} (hi : i < 2) {c0 : Nat} (hc : S.1 16 i = nI c0) (h64 : c0 < 64) (x y : Int32) : Met l yX3_list wsX3_list ({ frames := 0, cells := 0, slots := 0, locals := 0 } : Room) (va_Pc [.ref (gA G 0), .int (nI i), .int x, .int y] (fun U => U.heap.size = sz ∧ mP G S U)) (va_Qv (fun S' => S' = mliS S i c0 x y) (mB G) (gF G sz)) 0 0 (gF G sz) := by
  refine Met.ofW (cc := cX3_list) (maxL := 4) (ret := none) (by decide) rfl ?_
  intro p e s m args below meth c s₁ B hml hv
  obtain ⟨rfl, hsz, hW, hK⟩ := hv
  subst hsz
  have hx := B.exec
  have hb := B.bytes
  have hr := B.returns
  have hts := atoms_spec (ws := wsX3_list) B.pre
  have hown : s.vm.findClass RX3 = some m.cls := findClass_of_methodNamed B.named
  have hlocks := B.notSynchronized
  have hS : va_S (gF G s.heap.size) s.heap s.heap [] := va_S.rf
  have inX3 : ∀ w ∈ u_ws RX3 TX3 22, w ∈ wsX3_list := by decide +kernel
  have hl := lv_entry ([.ref (gA G 0), .int (nI i), .int x, .int y]) (n := 4) (Nat.le_of_ble_eq_true rfl)
  rw [lg_entry_eq]
  generalize (lg_sl ([.ref (gA G 0), .int (nI i), .int x, .int y]) ++ List.replicate (4 - (lg_sl ([.ref (gA G 0), .int (nI i), .int x, .int y])).length) Slot.unset).toArray = ls at hl ⊢
  have hl : lv_has ls 4 [(0, .ref (gA G 0)), (1, .int (nI i)), (2, .int x), (3, .int y)] := hl
  refine lv_aload_n hx hb dX3_list_0 rfl (lv_at hl 0 rfl) ?_
  refine va_get (D := gD G) (ci := 3) (v := .ref (gA G 17)) (C := RX3) (T := TX3) (N := 22) hx hb hts inX3 hown hK.1 hW 0 mw_0 rfl 19 (by decide) (hts (.fieldLink RX3 67 "MarkedTreesModel" "listedNode" "[I") (by decide +kernel)) (fun _ h9 => h9) rfl dX3_list_1 ?_
  refine lv_bipush (v := nI 64) hx hb dX3_list_4 (by decide) ?_
  refine lv_iload_n hx hb dX3_list_6 rfl (lv_at hl 1 rfl) ?_
  refine nv_imul hx hb dX3_list_7 ?_
  refine lv_aload_n hx hb dX3_list_8 rfl (lv_at hl 0 rfl) ?_
  refine va_get (D := gD G) (ci := 3) (v := .ref (gA G 16)) (C := RX3) (T := TX3) (N := 22) hx hb hts inX3 hown hK.1 hW 0 mw_0 rfl 18 (by decide) (hts (.fieldLink RX3 64 "MarkedTreesModel" "listed" "[I") (by decide +kernel)) (fun _ h9 => h9) rfl dX3_list_9 ?_
  refine lv_iload_n hx hb dX3_list_12 rfl (lv_at hl 1 rfl) ?_
  refine nv_iald hx hb hK.1 hW 16 0 mw_16 rfl (i := i) (by omega) (by decide) dX3_list_13 ?_
  refine lv_rwi hc ?_
  refine nv_iadd hx hb dX3_list_14 ?_
  refine lv_iload_n hx hb dX3_list_15 rfl (lv_at hl 2 rfl) ?_
  refine nv_iast hx hb hK.1 hW (wl_D hK.2.1) hS 17 0 mw_17 rfl (i := (64 * i) + c0) (by omega) (by decide) dX3_list_16 (fun H locs hW hS => ?_)
  have hW : mW G (s1 S 17 ((64 * i) + c0) x) H := mp_17 hW
  obtain ⟨S_1, eS_1⟩ : ∃ z, z = s1 S 17 ((64 * i) + c0) x := ⟨_, rfl⟩
  rw [← eS_1] at hW
  have hc_2 : S_1.1 16 i = nI c0 := by rw [eS_1, s1_ne _ _ _ _ (by omega)]; exact hc
  refine lv_aload_n hx hb dX3_list_17 rfl (lv_at hl 0 rfl) ?_
  refine va_get (D := gD G) (ci := 3) (v := .ref (gA G 18)) (C := RX3) (T := TX3) (N := 22) hx hb hts inX3 hown hK.1 hW 0 mw_0 rfl 20 (by decide) (hts (.fieldLink RX3 70 "MarkedTreesModel" "listedKind" "[I") (by decide +kernel)) (fun _ h9 => h9) rfl dX3_list_18 ?_
  refine lv_bipush (v := nI 64) hx hb dX3_list_21 (by decide) ?_
  refine lv_iload_n hx hb dX3_list_23 rfl (lv_at hl 1 rfl) ?_
  refine nv_imul hx hb dX3_list_24 ?_
  refine lv_aload_n hx hb dX3_list_25 rfl (lv_at hl 0 rfl) ?_
  refine va_get (D := gD G) (ci := 3) (v := .ref (gA G 16)) (C := RX3) (T := TX3) (N := 22) hx hb hts inX3 hown hK.1 hW 0 mw_0 rfl 18 (by decide) (hts (.fieldLink RX3 64 "MarkedTreesModel" "listed" "[I") (by decide +kernel)) (fun _ h9 => h9) rfl dX3_list_26 ?_
  refine lv_iload_n hx hb dX3_list_29 rfl (lv_at hl 1 rfl) ?_
  refine nv_iald hx hb hK.1 hW 16 0 mw_16 rfl (i := i) (by omega) (by decide) dX3_list_30 ?_
  refine lv_rwi hc_2 ?_
  refine nv_iadd hx hb dX3_list_31 ?_
  refine lv_iload_n hx hb dX3_list_32 rfl (lv_at hl 3 rfl) ?_
  refine nv_iast hx hb hK.1 hW (wl_D hK.2.1) hS 18 0 mw_18 rfl (i := (64 * i) + c0) (by omega) (by decide) dX3_list_33 (fun H locs hW hS => ?_)
  have hW : mW G (s1 S_1 18 ((64 * i) + c0) y) H := mp_18 hW
  obtain ⟨S_3, eS_3⟩ : ∃ z, z = s1 S_1 18 ((64 * i) + c0) y := ⟨_, rfl⟩
  rw [← eS_3] at hW
  have hc_4 : S_3.1 16 i = nI c0 := by rw [eS_3, s1_ne _ _ _ _ (by omega)]; exact hc_2
  refine lv_aload_n hx hb dX3_list_34 rfl (lv_at hl 0 rfl) ?_
  refine va_get (D := gD G) (ci := 3) (v := .ref (gA G 16)) (C := RX3) (T := TX3) (N := 22) hx hb hts inX3 hown hK.1 hW 0 mw_0 rfl 18 (by decide) (hts (.fieldLink RX3 64 "MarkedTreesModel" "listed" "[I") (by decide +kernel)) (fun _ h9 => h9) rfl dX3_list_35 ?_
  refine lv_iload_n hx hb dX3_list_38 rfl (lv_at hl 1 rfl) ?_
  refine lv_dup2_11 hx hb dX3_list_39 rfl rfl ?_
  refine nv_iald hx hb hK.1 hW 16 0 mw_16 rfl (i := i) (by omega) (by decide) dX3_list_40 ?_
  refine lv_rwi hc_4 ?_
  refine lv_iconst (v := nI 1) hx hb dX3_list_41 (by decide) ?_
  refine nv_iadd hx hb dX3_list_42 ?_
  refine nv_iast hx hb hK.1 hW (wl_D hK.2.1) hS 16 0 mw_16 rfl (i := i) (by omega) (by decide) dX3_list_43 (fun H locs hW hS => ?_)
  have hW : mW G (s1 S_3 16 i (nI (c0 + 1))) H := mp_16 hW
  obtain ⟨S_5, eS_5⟩ : ∃ z, z = s1 S_3 16 i (nI (c0 + 1)) := ⟨_, rfl⟩
  rw [← eS_5] at hW
  exact W.vret hx hb hr (fun t9 ht9 _ => ⟨⟨S_5, rfl, (by subst_vars; rfl), (show mW G S_5 t9.heap by rw [ht9]; exact hW)⟩, hS.F ht9⟩) hS.2.2 dX3_list_44
