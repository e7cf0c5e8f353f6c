set_option maxHeartbeats 4000000 in
set_option maxRecDepth 100000 in
theorem k_X3_mergedAlive (l : Launch) (G : GT) (S : SS) {i : Nat} (hi : i < 2) {a b : Nat} (ha : a < 40) (hb4 : b < 40) {bi : Nat → Nat} (hbi : ∀ n, n < 16 → (ti (S.1 4 a) n = true ∨ ti (S.1 4 b) n = true) → bi n < 40 ∧ S.1 3 n = nI (bi n)) : Met l yX3_mergedAlive wsX3_mergedAlive ({ frames := 2, cells := 0, slots := 0, locals := 44 } : Room) (va_Pc [.ref (gA G 0), .int (nI i), .int (nI a), .int (nI b)] (mP G S)) (vp_Si (fun r => r = maG S bi i a b 15 1 (nI 1))) 0 0 (fun _ => False) := by
  refine Met.ofW (cc := cX3_mergedAlive) (maxL := 9) (ret := (some .int)) (by decide) rfl ?_
  intro p e s m args below meth c s₁ B hml hv
  obtain ⟨rfl, hW, hK⟩ := hv
  have hx := B.exec
  have hb := B.bytes
  have hr := B.returns
  have hts := atoms_spec (ws := wsX3_mergedAlive) B.pre
  have hown : s.vm.findClass RX3 = some m.cls := findClass_of_methodNamed B.named
  have hlocks := B.notSynchronized
  have hS : va_S (gF G s.heap.size) s.heap s.heap [] := va_S.rf
  have inX3 : ∀ w ∈ u_ws RX3 TX3 22, w ∈ wsX3_mergedAlive := by decide +kernel
  have hl := lv_entry ([.ref (gA G 0), .int (nI i), .int (nI a), .int (nI b)]) (n := 9) (Nat.le_of_ble_eq_true rfl)
  rw [lg_entry_eq]
  generalize (lg_sl ([.ref (gA G 0), .int (nI i), .int (nI a), .int (nI b)]) ++ List.replicate (9 - (lg_sl ([.ref (gA G 0), .int (nI i), .int (nI a), .int (nI b)])).length) Slot.unset).toArray = ls at hl ⊢
  have hl : lv_has ls 9 [(0, .ref (gA G 0)), (1, .int (nI i)), (2, .int (nI a)), (3, .int (nI b))] := hl
  have LP : ∀ (k : Nat) (x : Int32) (n : Nat), (1 ≤ n) → (n + k = 16) → ∀ (ls : Array Slot), lv_has ls 9 [(0, .ref (gA G 0)), (1, .int (nI i)), (2, .int (nI a)), (3, .int (nI b)), (4, .int x), (5, .int (nI n))] → W p l e (headSpec wsX3_mergedAlive ({ frames := 2, cells := 0, slots := 0, locals := 44 } : Room)).room s m ([.ref (gA G 0), .int (nI i), .int (nI a), .int (nI b)] : List Value).toArray below meth c s.heap [] 0 0 (MQ below (vp_Si (fun r => r = maG S bi i a b k n x)) ([.ref (gA G 0), .int (nI i), .int (nI a), .int (nI b)] : List Value).toArray s 0 0 (fun _ => False)) (F0 m 6 ls []) := by
    intro k
    induction k with
    | zero =>
      intro x n h1 h2 ls hl
      refine lv_iload hx hb dX3_mergedAlive_6 (lv_at hl 5 rfl) ?_
      refine lv_bipush (v := nI 16) hx hb dX3_mergedAlive_8 (by decide) ?_
      refine nv_icmp_ge (tgt := 127) hx hb (by omega) (by omega) dX3_mergedAlive_10 (by decide) (fun c_10 => ?_) (fun c_10 => ?_)
      · refine lv_iload hx hb dX3_mergedAlive_127 (lv_at hl 4 rfl) ?_
        exact W.iret (v := x) hx hb hr (fun t9 ht9 _ => ⟨_, rfl, rfl, ht9⟩) (fun _ h => by cases h) dX3_mergedAlive_129
      · exact absurd c_10 (by omega)
    | succ k ih =>
      intro x n h1 h2 ls hl
      refine lv_iload hx hb dX3_mergedAlive_6 (lv_at hl 5 rfl) ?_
      refine lv_bipush (v := nI 16) hx hb dX3_mergedAlive_8 (by decide) ?_
      refine nv_icmp_ge (tgt := 127) hx hb (by omega) (by omega) dX3_mergedAlive_10 (by decide) (fun c_10 => ?_) (fun c_10 => ?_)
      · exact absurd c_10 (by omega)
      · refine lv_aload_n hx hb dX3_mergedAlive_13 rfl (lv_at hl 0 rfl) ?_
        refine lv_iload_n hx hb dX3_mergedAlive_14 rfl (lv_at hl 2 rfl) ?_
        refine lv_iload hx hb dX3_mergedAlive_15 (lv_at hl 5 rfl) ?_
        refine pv_i (va_runV (As := [.int (nI a), .int (nI n)]) (rest := []) ⟨hx, hb, hml, hown, hts⟩ (k_X3_isAlive l G S (t := a) (by omega) (nI n)) (cwV 2 hts gX3_mergedAlive_X3_isAlive rfl rfl rfl (by decide +kernel) ⟨Nat.le_of_ble_eq_true rfl, Nat.le_of_ble_eq_true rfl⟩) ⟨mP_blind, m_recv hW hK, mP_at hW hK hS⟩ rfl rfl hl.1 rfl (lv_room (Nat.le_of_ble_eq_true rfl)) dX3_mergedAlive_17 ⟨Nat.le_of_ble_eq_true rfl, Nat.le_of_ble_eq_true rfl⟩) (fun r_1 hr_1 => ?_)
        rw [mAl_nI S a (by omega)] at hr_1
        subst hr_1
        refine lv_istore (lv' := [(6, .int (bI (ti (S.1 4 a) n))), (0, .ref (gA G 0)), (1, .int (nI i)), (2, .int (nI a)), (3, .int (nI b)), (4, .int x), (5, .int (nI n))]) hx hb dX3_mergedAlive_20 hl (by decide) rfl (fun ls hl => ?_)
        refine lv_aload_n hx hb dX3_mergedAlive_22 rfl (lv_at hl 1 rfl) ?_
        refine lv_iload_n hx hb dX3_mergedAlive_23 rfl (lv_at hl 4 rfl) ?_
        refine lv_iload hx hb dX3_mergedAlive_24 (lv_at hl 6 rfl) ?_
        refine pv_i (va_runV (As := [.int (nI b), .int (nI n)]) (rest := []) ⟨hx, hb, hml, hown, hts⟩ (k_X3_isAlive l G S (t := b) (by omega) (nI n)) (cwV 2 hts gX3_mergedAlive_X3_isAlive rfl rfl rfl (by decide +kernel) ⟨Nat.le_of_ble_eq_true rfl, Nat.le_of_ble_eq_true rfl⟩) ⟨mP_blind, m_recv hW hK, mP_at hW hK hS⟩ rfl rfl hl.1 rfl (lv_room (Nat.le_of_ble_eq_true rfl)) dX3_mergedAlive_26 ⟨Nat.le_of_ble_eq_true rfl, Nat.le_of_ble_eq_true rfl⟩) (fun r_2 hr_2 => ?_)
        rw [mAl_nI S b (by omega)] at hr_2
        subst hr_2
        refine lv_istore (lv' := [(7, .int (bI (ti (S.1 4 b) n))), (6, .int (bI (ti (S.1 4 a) n))), (0, .ref (gA G 0)), (1, .int (nI i)), (2, .int (nI a)), (3, .int (nI b)), (4, .int x), (5, .int (nI n))]) hx hb dX3_mergedAlive_29 hl (by decide) rfl (fun ls hl => ?_)
        refine lv_iload hx hb dX3_mergedAlive_31 (lv_at hl 1 rfl) ?_
        refine bv_if_eq (b := ti (S.1 4 a) n) (tgt := 41) hx hb dX3_mergedAlive_33 (by decide) (fun c_33 => ?_) (fun c_33 => ?_)
        · refine lv_iload hx hb dX3_mergedAlive_41 (lv_at hl 1 rfl) ?_
          refine bv_if_eq (b := ti (S.1 4 a) n) (tgt := 61) hx hb dX3_mergedAlive_43 (by decide) (fun c_43 => ?_) (fun c_43 => ?_)
          · refine lv_iload hx hb dX3_mergedAlive_61 (lv_at hl 0 rfl) ?_
            refine bv_if_eq (b := ti (S.1 4 b) n) (tgt := 85) hx hb dX3_mergedAlive_63 (by decide) (fun c_63 => ?_) (fun c_63 => ?_)
            · refine lv_iconst (v := nI 0) hx hb dX3_mergedAlive_85 (by decide) ?_
              refine lv_istore (lv' := [(8, .int (nI 0)), (7, .int (bI (ti (S.1 4 b) n))), (6, .int (bI (ti (S.1 4 a) n))), (0, .ref (gA G 0)), (1, .int (nI i)), (2, .int (nI a)), (3, .int (nI b)), (4, .int x), (5, .int (nI n))]) hx hb dX3_mergedAlive_86 hl (by decide) rfl (fun ls hl => ?_)
              refine lv_iload hx hb dX3_mergedAlive_88 (lv_at hl 0 rfl) ?_
              refine lv_if_eq (tgt := 117) hx hb dX3_mergedAlive_90 (by decide) (fun c_90 => ?_) (fun c_90 => ?_)
              · refine lv_iload hx hb dX3_mergedAlive_117 (lv_at hl 7 rfl) ?_
                refine lv_istore (lv' := [(4, .int x), (8, .int (nI 0)), (7, .int (bI (ti (S.1 4 b) n))), (6, .int (bI (ti (S.1 4 a) n))), (0, .ref (gA G 0)), (1, .int (nI i)), (2, .int (nI a)), (3, .int (nI b)), (5, .int (nI n))]) hx hb dX3_mergedAlive_119 hl (by decide) rfl (fun ls hl => ?_)
                refine lv_iinc (v := nI (n + 1)) (lv' := [(5, .int (nI (n + 1))), (4, .int x), (8, .int (nI 0)), (7, .int (bI (ti (S.1 4 b) n))), (6, .int (bI (ti (S.1 4 a) n))), (0, .ref (gA G 0)), (1, .int (nI i)), (2, .int (nI a)), (3, .int (nI b))]) hx hb dX3_mergedAlive_121 hl (k := 8) rfl (nI_add n 1) (by decide) rfl (fun ls hl => ?_)
                refine lv_goto (tgt := 6) hx hb dX3_mergedAlive_124 (by decide) ?_
                have E : maG S bi i a b (k + 1) n x = maG S bi i a b k (n + 1) x := by rw [maG, if_neg (by simp [maC, c_33, c_63])]
                rw [E]
                exact ih _ (n + 1) (by omega) (by omega) ls (lv_sub hl [5, 6, 7, 8, 1, 0] rfl)
              · exact absurd c_90 (by decide)
            · refine lv_aload_n hx hb dX3_mergedAlive_66 rfl (lv_at hl 2 rfl) ?_
              refine lv_aload_n hx hb dX3_mergedAlive_67 rfl (lv_at hl 2 rfl) ?_
              refine va_get (D := gD G) (ci := 3) (v := .ref (gA G 3)) (C := RX3) (T := TX3) (N := 22) hx hb hts inX3 hown hK.1 hW 0 mw_0 rfl 5 (by decide) (hts (.fieldLink RX3 24 "MarkedTreesModel" "birth" "[I") (by decide +kernel)) (fun _ h9 => h9) rfl dX3_mergedAlive_68 ?_
              refine lv_iload hx hb dX3_mergedAlive_71 (lv_at hl 7 rfl) ?_
              refine nv_iald hx hb hK.1 hW 3 0 mw_3 rfl (i := n) (by omega) (by decide) dX3_mergedAlive_73 ?_
              obtain ⟨hj40, hjn⟩ := hbi n (by omega) (Or.inr c_63)
              refine lv_rwi hjn ?_
              refine lv_iload_n hx hb dX3_mergedAlive_74 rfl (lv_at hl 4 rfl) ?_
              refine pv_i (va_runV (As := [.int (nI (bi n)), .int (nI a)]) (rest := []) ⟨hx, hb, hml, hown, hts⟩ (k_X3_known l G S (a := bi n) (r0 := a) (by omega) (by omega)) (cwV 2 hts gX3_mergedAlive_X3_known rfl rfl rfl (by decide +kernel) ⟨Nat.le_of_ble_eq_true rfl, Nat.le_of_ble_eq_true rfl⟩) ⟨mP_blind, m_recv hW hK, mP_at hW hK hS⟩ rfl rfl hl.1 rfl (lv_room (Nat.le_of_ble_eq_true rfl)) dX3_mergedAlive_75 ⟨Nat.le_of_ble_eq_true rfl, Nat.le_of_ble_eq_true rfl⟩) (fun r_3 hr_3 => ?_)
              have hr_3 : r_3 = bI (mKn S (bi n) a) := hr_3
              subst hr_3
              refine bv_if_ne (b := mKn S (bi n) a) (tgt := 85) hx hb dX3_mergedAlive_78 (by decide) (fun c_78 => ?_) (fun c_78 => ?_)
              · refine lv_iconst (v := nI 0) hx hb dX3_mergedAlive_85 (by decide) ?_
                refine lv_istore (lv' := [(8, .int (nI 0)), (7, .int (bI (ti (S.1 4 b) n))), (6, .int (bI (ti (S.1 4 a) n))), (0, .ref (gA G 0)), (1, .int (nI i)), (2, .int (nI a)), (3, .int (nI b)), (4, .int x), (5, .int (nI n))]) hx hb dX3_mergedAlive_86 hl (by decide) rfl (fun ls hl => ?_)
                refine lv_iload hx hb dX3_mergedAlive_88 (lv_at hl 0 rfl) ?_
                refine lv_if_eq (tgt := 117) hx hb dX3_mergedAlive_90 (by decide) (fun c_90 => ?_) (fun c_90 => ?_)
                · refine lv_iload hx hb dX3_mergedAlive_117 (lv_at hl 7 rfl) ?_
                  refine lv_istore (lv' := [(4, .int x), (8, .int (nI 0)), (7, .int (bI (ti (S.1 4 b) n))), (6, .int (bI (ti (S.1 4 a) n))), (0, .ref (gA G 0)), (1, .int (nI i)), (2, .int (nI a)), (3, .int (nI b)), (5, .int (nI n))]) hx hb dX3_mergedAlive_119 hl (by decide) rfl (fun ls hl => ?_)
                  refine lv_iinc (v := nI (n + 1)) (lv' := [(5, .int (nI (n + 1))), (4, .int x), (8, .int (nI 0)), (7, .int (bI (ti (S.1 4 b) n))), (6, .int (bI (ti (S.1 4 a) n))), (0, .ref (gA G 0)), (1, .int (nI i)), (2, .int (nI a)), (3, .int (nI b))]) hx hb dX3_mergedAlive_121 hl (k := 8) rfl (nI_add n 1) (by decide) rfl (fun ls hl => ?_)
                  refine lv_goto (tgt := 6) hx hb dX3_mergedAlive_124 (by decide) ?_
                  have E : maG S bi i a b (k + 1) n x = maG S bi i a b k (n + 1) x := by rw [maG, if_neg (by simp [maC, c_33, c_63, c_78])]
                  rw [E]
                  exact ih _ (n + 1) (by omega) (by omega) ls (lv_sub hl [5, 6, 7, 8, 1, 0] rfl)
                · exact absurd c_90 (by decide)
              · refine lv_iconst (v := nI 1) hx hb dX3_mergedAlive_81 (by decide) ?_
                refine lv_goto (tgt := 86) hx hb dX3_mergedAlive_82 (by decide) ?_
                refine lv_istore (lv' := [(8, .int (nI 1)), (7, .int (bI (ti (S.1 4 b) n))), (6, .int (bI (ti (S.1 4 a) n))), (0, .ref (gA G 0)), (1, .int (nI i)), (2, .int (nI a)), (3, .int (nI b)), (4, .int x), (5, .int (nI n))]) hx hb dX3_mergedAlive_86 hl (by decide) rfl (fun ls hl => ?_)
                refine lv_iload hx hb dX3_mergedAlive_88 (lv_at hl 0 rfl) ?_
                refine lv_if_eq (tgt := 117) hx hb dX3_mergedAlive_90 (by decide) (fun c_90 => ?_) (fun c_90 => ?_)
                · exact absurd c_90 (by decide)
                · refine lv_aload_n hx hb dX3_mergedAlive_93 rfl (lv_at hl 3 rfl) ?_
                  refine va_get (D := gD G) (ci := 3) (v := .ref (gA G 13)) (C := RX3) (T := TX3) (N := 22) hx hb hts inX3 hown hK.1 hW 0 mw_0 rfl 15 (by decide) (hts (.fieldLink RX3 55 "MarkedTreesModel" "buried" "[I") (by decide +kernel)) (fun _ h9 => h9) rfl dX3_mergedAlive_94 ?_
                  refine lv_iload_n hx hb dX3_mergedAlive_97 rfl (lv_at hl 4 rfl) ?_
                  refine nv_iald hx hb hK.1 hW 13 0 mw_13 rfl (i := i) (by omega) (by decide) dX3_mergedAlive_98 ?_
                  refine lv_iload hx hb dX3_mergedAlive_99 (lv_at hl 8 rfl) ?_
                  refine lv_ishr hx hb dX3_mergedAlive_101 ?_
                  refine lv_iconst (v := nI 1) hx hb dX3_mergedAlive_102 (by decide) ?_
                  refine lv_iand hx hb dX3_mergedAlive_103 ?_
                  refine lv_if_ne (tgt := 117) hx hb dX3_mergedAlive_104 (by decide) (fun c_104 => ?_) (fun c_104 => ?_)
                  · refine lv_iload hx hb dX3_mergedAlive_117 (lv_at hl 7 rfl) ?_
                    refine lv_istore (lv' := [(4, .int x), (8, .int (nI 1)), (7, .int (bI (ti (S.1 4 b) n))), (6, .int (bI (ti (S.1 4 a) n))), (0, .ref (gA G 0)), (1, .int (nI i)), (2, .int (nI a)), (3, .int (nI b)), (5, .int (nI n))]) hx hb dX3_mergedAlive_119 hl (by decide) rfl (fun ls hl => ?_)
                    refine lv_iinc (v := nI (n + 1)) (lv' := [(5, .int (nI (n + 1))), (4, .int x), (8, .int (nI 1)), (7, .int (bI (ti (S.1 4 b) n))), (6, .int (bI (ti (S.1 4 a) n))), (0, .ref (gA G 0)), (1, .int (nI i)), (2, .int (nI a)), (3, .int (nI b))]) hx hb dX3_mergedAlive_121 hl (k := 8) rfl (nI_add n 1) (by decide) rfl (fun ls hl => ?_)
                    refine lv_goto (tgt := 6) hx hb dX3_mergedAlive_124 (by decide) ?_
                    have hb9 : ti (S.1 13 i) n = true := by cases h9 : ti (S.1 13 i) n; exact absurd ((ti_shr0 _ (by omega)).mpr h9) c_104; rfl
                    have E : maG S bi i a b (k + 1) n x = maG S bi i a b k (n + 1) x := by rw [maG, if_neg (by simp [maC, c_33, c_63, c_78, hb9])]
                    rw [E]
                    exact ih _ (n + 1) (by omega) (by omega) ls (lv_sub hl [5, 6, 7, 8, 1, 0] rfl)
                  · refine lv_iload hx hb dX3_mergedAlive_107 (lv_at hl 7 rfl) ?_
                    refine lv_iconst (v := nI 1) hx hb dX3_mergedAlive_109 (by decide) ?_
                    refine lv_iload hx hb dX3_mergedAlive_110 (lv_at hl 8 rfl) ?_
                    refine lv_ishl hx hb dX3_mergedAlive_112 ?_
                    refine lv_ior hx hb dX3_mergedAlive_113 ?_
                    refine lv_goto (tgt := 119) hx hb dX3_mergedAlive_114 (by decide) ?_
                    refine lv_istore (lv' := [(4, .int (x ||| ((nI 1) <<< ((nI n) &&& 31)))), (8, .int (nI 1)), (7, .int (bI (ti (S.1 4 b) n))), (6, .int (bI (ti (S.1 4 a) n))), (0, .ref (gA G 0)), (1, .int (nI i)), (2, .int (nI a)), (3, .int (nI b)), (5, .int (nI n))]) hx hb dX3_mergedAlive_119 hl (by decide) rfl (fun ls hl => ?_)
                    refine lv_iinc (v := nI (n + 1)) (lv' := [(5, .int (nI (n + 1))), (4, .int (x ||| ((nI 1) <<< ((nI n) &&& 31)))), (8, .int (nI 1)), (7, .int (bI (ti (S.1 4 b) n))), (6, .int (bI (ti (S.1 4 a) n))), (0, .ref (gA G 0)), (1, .int (nI i)), (2, .int (nI a)), (3, .int (nI b))]) hx hb dX3_mergedAlive_121 hl (k := 8) rfl (nI_add n 1) (by decide) rfl (fun ls hl => ?_)
                    refine lv_goto (tgt := 6) hx hb dX3_mergedAlive_124 (by decide) ?_
                    have hb9 := (ti_shr0 _ (by omega)).mp c_104
                    have E : maG S bi i a b (k + 1) n x = maG S bi i a b k (n + 1) (x ||| ((nI 1) <<< ((nI n) &&& 31))) := by rw [maG, if_pos (by simp [maC, c_33, c_63, c_78, hb9])]
                    rw [E]
                    exact ih _ (n + 1) (by omega) (by omega) ls (lv_sub hl [5, 6, 7, 8, 1, 0] rfl)
          · exact absurd (c_33.symm.trans c_43) (by decide)
        · refine lv_iload hx hb dX3_mergedAlive_36 (lv_at hl 0 rfl) ?_
          refine bv_if_ne (b := ti (S.1 4 b) n) (tgt := 81) hx hb dX3_mergedAlive_38 (by decide) (fun c_38 => ?_) (fun c_38 => ?_)
          · refine lv_iconst (v := nI 1) hx hb dX3_mergedAlive_81 (by decide) ?_
            refine lv_goto (tgt := 86) hx hb dX3_mergedAlive_82 (by decide) ?_
            refine lv_istore (lv' := [(8, .int (nI 1)), (7, .int (bI (ti (S.1 4 b) n))), (6, .int (bI (ti (S.1 4 a) n))), (0, .ref (gA G 0)), (1, .int (nI i)), (2, .int (nI a)), (3, .int (nI b)), (4, .int x), (5, .int (nI n))]) hx hb dX3_mergedAlive_86 hl (by decide) rfl (fun ls hl => ?_)
            refine lv_iload hx hb dX3_mergedAlive_88 (lv_at hl 0 rfl) ?_
            refine lv_if_eq (tgt := 117) hx hb dX3_mergedAlive_90 (by decide) (fun c_90 => ?_) (fun c_90 => ?_)
            · exact absurd c_90 (by decide)
            · refine lv_aload_n hx hb dX3_mergedAlive_93 rfl (lv_at hl 3 rfl) ?_
              refine va_get (D := gD G) (ci := 3) (v := .ref (gA G 13)) (C := RX3) (T := TX3) (N := 22) hx hb hts inX3 hown hK.1 hW 0 mw_0 rfl 15 (by decide) (hts (.fieldLink RX3 55 "MarkedTreesModel" "buried" "[I") (by decide +kernel)) (fun _ h9 => h9) rfl dX3_mergedAlive_94 ?_
              refine lv_iload_n hx hb dX3_mergedAlive_97 rfl (lv_at hl 4 rfl) ?_
              refine nv_iald hx hb hK.1 hW 13 0 mw_13 rfl (i := i) (by omega) (by decide) dX3_mergedAlive_98 ?_
              refine lv_iload hx hb dX3_mergedAlive_99 (lv_at hl 8 rfl) ?_
              refine lv_ishr hx hb dX3_mergedAlive_101 ?_
              refine lv_iconst (v := nI 1) hx hb dX3_mergedAlive_102 (by decide) ?_
              refine lv_iand hx hb dX3_mergedAlive_103 ?_
              refine lv_if_ne (tgt := 117) hx hb dX3_mergedAlive_104 (by decide) (fun c_104 => ?_) (fun c_104 => ?_)
              · refine lv_iload hx hb dX3_mergedAlive_117 (lv_at hl 7 rfl) ?_
                refine lv_istore (lv' := [(4, .int x), (8, .int (nI 1)), (7, .int (bI (ti (S.1 4 b) n))), (6, .int (bI (ti (S.1 4 a) n))), (0, .ref (gA G 0)), (1, .int (nI i)), (2, .int (nI a)), (3, .int (nI b)), (5, .int (nI n))]) hx hb dX3_mergedAlive_119 hl (by decide) rfl (fun ls hl => ?_)
                refine lv_iinc (v := nI (n + 1)) (lv' := [(5, .int (nI (n + 1))), (4, .int x), (8, .int (nI 1)), (7, .int (bI (ti (S.1 4 b) n))), (6, .int (bI (ti (S.1 4 a) n))), (0, .ref (gA G 0)), (1, .int (nI i)), (2, .int (nI a)), (3, .int (nI b))]) hx hb dX3_mergedAlive_121 hl (k := 8) rfl (nI_add n 1) (by decide) rfl (fun ls hl => ?_)
                refine lv_goto (tgt := 6) hx hb dX3_mergedAlive_124 (by decide) ?_
                have hb9 : ti (S.1 13 i) n = true := by cases h9 : ti (S.1 13 i) n; exact absurd ((ti_shr0 _ (by omega)).mpr h9) c_104; rfl
                have E : maG S bi i a b (k + 1) n x = maG S bi i a b k (n + 1) x := by rw [maG, if_neg (by simp [maC, c_33, c_38, hb9])]
                rw [E]
                exact ih _ (n + 1) (by omega) (by omega) ls (lv_sub hl [5, 6, 7, 8, 1, 0] rfl)
              · refine lv_iload hx hb dX3_mergedAlive_107 (lv_at hl 7 rfl) ?_
                refine lv_iconst (v := nI 1) hx hb dX3_mergedAlive_109 (by decide) ?_
                refine lv_iload hx hb dX3_mergedAlive_110 (lv_at hl 8 rfl) ?_
                refine lv_ishl hx hb dX3_mergedAlive_112 ?_
                refine lv_ior hx hb dX3_mergedAlive_113 ?_
                refine lv_goto (tgt := 119) hx hb dX3_mergedAlive_114 (by decide) ?_
                refine lv_istore (lv' := [(4, .int (x ||| ((nI 1) <<< ((nI n) &&& 31)))), (8, .int (nI 1)), (7, .int (bI (ti (S.1 4 b) n))), (6, .int (bI (ti (S.1 4 a) n))), (0, .ref (gA G 0)), (1, .int (nI i)), (2, .int (nI a)), (3, .int (nI b)), (5, .int (nI n))]) hx hb dX3_mergedAlive_119 hl (by decide) rfl (fun ls hl => ?_)
                refine lv_iinc (v := nI (n + 1)) (lv' := [(5, .int (nI (n + 1))), (4, .int (x ||| ((nI 1) <<< ((nI n) &&& 31)))), (8, .int (nI 1)), (7, .int (bI (ti (S.1 4 b) n))), (6, .int (bI (ti (S.1 4 a) n))), (0, .ref (gA G 0)), (1, .int (nI i)), (2, .int (nI a)), (3, .int (nI b))]) hx hb dX3_mergedAlive_121 hl (k := 8) rfl (nI_add n 1) (by decide) rfl (fun ls hl => ?_)
                refine lv_goto (tgt := 6) hx hb dX3_mergedAlive_124 (by decide) ?_
                have hb9 := (ti_shr0 _ (by omega)).mp c_104
                have E : maG S bi i a b (k + 1) n x = maG S bi i a b k (n + 1) (x ||| ((nI 1) <<< ((nI n) &&& 31))) := by rw [maG, if_pos (by simp [maC, c_33, c_38, hb9])]
                rw [E]
                exact ih _ (n + 1) (by omega) (by omega) ls (lv_sub hl [5, 6, 7, 8, 1, 0] rfl)
          · refine lv_iload hx hb dX3_mergedAlive_41 (lv_at hl 1 rfl) ?_
            refine bv_if_eq (b := ti (S.1 4 a) n) (tgt := 61) hx hb dX3_mergedAlive_43 (by decide) (fun c_43 => ?_) (fun c_43 => ?_)
            · exact absurd (c_33.symm.trans c_43) (by decide)
            · refine lv_aload_n hx hb dX3_mergedAlive_46 rfl (lv_at hl 2 rfl) ?_
              refine lv_aload_n hx hb dX3_mergedAlive_47 rfl (lv_at hl 2 rfl) ?_
              refine va_get (D := gD G) (ci := 3) (v := .ref (gA G 3)) (C := RX3) (T := TX3) (N := 22) hx hb hts inX3 hown hK.1 hW 0 mw_0 rfl 5 (by decide) (hts (.fieldLink RX3 24 "MarkedTreesModel" "birth" "[I") (by decide +kernel)) (fun _ h9 => h9) rfl dX3_mergedAlive_48 ?_
              refine lv_iload hx hb dX3_mergedAlive_51 (lv_at hl 7 rfl) ?_
              refine nv_iald hx hb hK.1 hW 3 0 mw_3 rfl (i := n) (by omega) (by decide) dX3_mergedAlive_53 ?_
              obtain ⟨hj40, hjn⟩ := hbi n (by omega) (Or.inl c_33)
              refine lv_rwi hjn ?_
              refine lv_iload_n hx hb dX3_mergedAlive_54 rfl (lv_at hl 5 rfl) ?_
              refine pv_i (va_runV (As := [.int (nI (bi n)), .int (nI b)]) (rest := []) ⟨hx, hb, hml, hown, hts⟩ (k_X3_known l G S (a := bi n) (r0 := b) (by omega) (by omega)) (cwV 2 hts gX3_mergedAlive_X3_known rfl rfl rfl (by decide +kernel) ⟨Nat.le_of_ble_eq_true rfl, Nat.le_of_ble_eq_true rfl⟩) ⟨mP_blind, m_recv hW hK, mP_at hW hK hS⟩ rfl rfl hl.1 rfl (lv_room (Nat.le_of_ble_eq_true rfl)) dX3_mergedAlive_55 ⟨Nat.le_of_ble_eq_true rfl, Nat.le_of_ble_eq_true rfl⟩) (fun r_4 hr_4 => ?_)
              have hr_4 : r_4 = bI (mKn S (bi n) b) := hr_4
              subst hr_4
              refine bv_if_eq (b := mKn S (bi n) b) (tgt := 81) hx hb dX3_mergedAlive_58 (by decide) (fun c_58 => ?_) (fun c_58 => ?_)
              · refine lv_iconst (v := nI 1) hx hb dX3_mergedAlive_81 (by decide) ?_
                refine lv_goto (tgt := 86) hx hb dX3_mergedAlive_82 (by decide) ?_
                refine lv_istore (lv' := [(8, .int (nI 1)), (7, .int (bI (ti (S.1 4 b) n))), (6, .int (bI (ti (S.1 4 a) n))), (0, .ref (gA G 0)), (1, .int (nI i)), (2, .int (nI a)), (3, .int (nI b)), (4, .int x), (5, .int (nI n))]) hx hb dX3_mergedAlive_86 hl (by decide) rfl (fun ls hl => ?_)
                refine lv_iload hx hb dX3_mergedAlive_88 (lv_at hl 0 rfl) ?_
                refine lv_if_eq (tgt := 117) hx hb dX3_mergedAlive_90 (by decide) (fun c_90 => ?_) (fun c_90 => ?_)
                · exact absurd c_90 (by decide)
                · refine lv_aload_n hx hb dX3_mergedAlive_93 rfl (lv_at hl 3 rfl) ?_
                  refine va_get (D := gD G) (ci := 3) (v := .ref (gA G 13)) (C := RX3) (T := TX3) (N := 22) hx hb hts inX3 hown hK.1 hW 0 mw_0 rfl 15 (by decide) (hts (.fieldLink RX3 55 "MarkedTreesModel" "buried" "[I") (by decide +kernel)) (fun _ h9 => h9) rfl dX3_mergedAlive_94 ?_
                  refine lv_iload_n hx hb dX3_mergedAlive_97 rfl (lv_at hl 4 rfl) ?_
                  refine nv_iald hx hb hK.1 hW 13 0 mw_13 rfl (i := i) (by omega) (by decide) dX3_mergedAlive_98 ?_
                  refine lv_iload hx hb dX3_mergedAlive_99 (lv_at hl 8 rfl) ?_
                  refine lv_ishr hx hb dX3_mergedAlive_101 ?_
                  refine lv_iconst (v := nI 1) hx hb dX3_mergedAlive_102 (by decide) ?_
                  refine lv_iand hx hb dX3_mergedAlive_103 ?_
                  refine lv_if_ne (tgt := 117) hx hb dX3_mergedAlive_104 (by decide) (fun c_104 => ?_) (fun c_104 => ?_)
                  · refine lv_iload hx hb dX3_mergedAlive_117 (lv_at hl 7 rfl) ?_
                    refine lv_istore (lv' := [(4, .int x), (8, .int (nI 1)), (7, .int (bI (ti (S.1 4 b) n))), (6, .int (bI (ti (S.1 4 a) n))), (0, .ref (gA G 0)), (1, .int (nI i)), (2, .int (nI a)), (3, .int (nI b)), (5, .int (nI n))]) hx hb dX3_mergedAlive_119 hl (by decide) rfl (fun ls hl => ?_)
                    refine lv_iinc (v := nI (n + 1)) (lv' := [(5, .int (nI (n + 1))), (4, .int x), (8, .int (nI 1)), (7, .int (bI (ti (S.1 4 b) n))), (6, .int (bI (ti (S.1 4 a) n))), (0, .ref (gA G 0)), (1, .int (nI i)), (2, .int (nI a)), (3, .int (nI b))]) hx hb dX3_mergedAlive_121 hl (k := 8) rfl (nI_add n 1) (by decide) rfl (fun ls hl => ?_)
                    refine lv_goto (tgt := 6) hx hb dX3_mergedAlive_124 (by decide) ?_
                    have hb9 : ti (S.1 13 i) n = true := by cases h9 : ti (S.1 13 i) n; exact absurd ((ti_shr0 _ (by omega)).mpr h9) c_104; rfl
                    have E : maG S bi i a b (k + 1) n x = maG S bi i a b k (n + 1) x := by rw [maG, if_neg (by simp [maC, c_33, c_38, c_58, hb9])]
                    rw [E]
                    exact ih _ (n + 1) (by omega) (by omega) ls (lv_sub hl [5, 6, 7, 8, 1, 0] rfl)
                  · refine lv_iload hx hb dX3_mergedAlive_107 (lv_at hl 7 rfl) ?_
                    refine lv_iconst (v := nI 1) hx hb dX3_mergedAlive_109 (by decide) ?_
                    refine lv_iload hx hb dX3_mergedAlive_110 (lv_at hl 8 rfl) ?_
                    refine lv_ishl hx hb dX3_mergedAlive_112 ?_
                    refine lv_ior hx hb dX3_mergedAlive_113 ?_
                    refine lv_goto (tgt := 119) hx hb dX3_mergedAlive_114 (by decide) ?_
                    refine lv_istore (lv' := [(4, .int (x ||| ((nI 1) <<< ((nI n) &&& 31)))), (8, .int (nI 1)), (7, .int (bI (ti (S.1 4 b) n))), (6, .int (bI (ti (S.1 4 a) n))), (0, .ref (gA G 0)), (1, .int (nI i)), (2, .int (nI a)), (3, .int (nI b)), (5, .int (nI n))]) hx hb dX3_mergedAlive_119 hl (by decide) rfl (fun ls hl => ?_)
                    refine lv_iinc (v := nI (n + 1)) (lv' := [(5, .int (nI (n + 1))), (4, .int (x ||| ((nI 1) <<< ((nI n) &&& 31)))), (8, .int (nI 1)), (7, .int (bI (ti (S.1 4 b) n))), (6, .int (bI (ti (S.1 4 a) n))), (0, .ref (gA G 0)), (1, .int (nI i)), (2, .int (nI a)), (3, .int (nI b))]) hx hb dX3_mergedAlive_121 hl (k := 8) rfl (nI_add n 1) (by decide) rfl (fun ls hl => ?_)
                    refine lv_goto (tgt := 6) hx hb dX3_mergedAlive_124 (by decide) ?_
                    have hb9 := (ti_shr0 _ (by omega)).mp c_104
                    have E : maG S bi i a b (k + 1) n x = maG S bi i a b k (n + 1) (x ||| ((nI 1) <<< ((nI n) &&& 31))) := by rw [maG, if_pos (by simp [maC, c_33, c_38, c_58, hb9])]
                    rw [E]
                    exact ih _ (n + 1) (by omega) (by omega) ls (lv_sub hl [5, 6, 7, 8, 1, 0] rfl)
              · refine lv_iload hx hb dX3_mergedAlive_61 (lv_at hl 0 rfl) ?_
                refine bv_if_eq (b := ti (S.1 4 b) n) (tgt := 85) hx hb dX3_mergedAlive_63 (by decide) (fun c_63 => ?_) (fun c_63 => ?_)
                · refine lv_iconst (v := nI 0) hx hb dX3_mergedAlive_85 (by decide) ?_
                  refine lv_istore (lv' := [(8, .int (nI 0)), (7, .int (bI (ti (S.1 4 b) n))), (6, .int (bI (ti (S.1 4 a) n))), (0, .ref (gA G 0)), (1, .int (nI i)), (2, .int (nI a)), (3, .int (nI b)), (4, .int x), (5, .int (nI n))]) hx hb dX3_mergedAlive_86 hl (by decide) rfl (fun ls hl => ?_)
                  refine lv_iload hx hb dX3_mergedAlive_88 (lv_at hl 0 rfl) ?_
                  refine lv_if_eq (tgt := 117) hx hb dX3_mergedAlive_90 (by decide) (fun c_90 => ?_) (fun c_90 => ?_)
                  · refine lv_iload hx hb dX3_mergedAlive_117 (lv_at hl 7 rfl) ?_
                    refine lv_istore (lv' := [(4, .int x), (8, .int (nI 0)), (7, .int (bI (ti (S.1 4 b) n))), (6, .int (bI (ti (S.1 4 a) n))), (0, .ref (gA G 0)), (1, .int (nI i)), (2, .int (nI a)), (3, .int (nI b)), (5, .int (nI n))]) hx hb dX3_mergedAlive_119 hl (by decide) rfl (fun ls hl => ?_)
                    refine lv_iinc (v := nI (n + 1)) (lv' := [(5, .int (nI (n + 1))), (4, .int x), (8, .int (nI 0)), (7, .int (bI (ti (S.1 4 b) n))), (6, .int (bI (ti (S.1 4 a) n))), (0, .ref (gA G 0)), (1, .int (nI i)), (2, .int (nI a)), (3, .int (nI b))]) hx hb dX3_mergedAlive_121 hl (k := 8) rfl (nI_add n 1) (by decide) rfl (fun ls hl => ?_)
                    refine lv_goto (tgt := 6) hx hb dX3_mergedAlive_124 (by decide) ?_
                    have E : maG S bi i a b (k + 1) n x = maG S bi i a b k (n + 1) x := by rw [maG, if_neg (by simp [maC, c_33, c_38, c_58, c_63])]
                    rw [E]
                    exact ih _ (n + 1) (by omega) (by omega) ls (lv_sub hl [5, 6, 7, 8, 1, 0] rfl)
                  · exact absurd c_90 (by decide)
                · exact absurd (c_38.symm.trans c_63) (by decide)
  refine lv_iconst (v := nI 1) hx hb dX3_mergedAlive_0 (by decide) ?_
  refine lv_istore (lv' := [(4, .int (nI 1)), (0, .ref (gA G 0)), (1, .int (nI i)), (2, .int (nI a)), (3, .int (nI b))]) hx hb dX3_mergedAlive_1 hl (by decide) rfl (fun ls hl => ?_)
  refine lv_iconst (v := nI 1) hx hb dX3_mergedAlive_3 (by decide) ?_
  refine lv_istore (lv' := [(5, .int (nI 1)), (4, .int (nI 1)), (0, .ref (gA G 0)), (1, .int (nI i)), (2, .int (nI a)), (3, .int (nI b))]) hx hb dX3_mergedAlive_4 hl (by decide) rfl (fun ls hl => ?_)
  exact LP 15 (nI 1) 1 (by omega) (by omega) ls (lv_sub hl [2, 3, 4, 5, 1, 0] rfl)

set_option maxHeartbeats 4000000 in
set_option maxRecDepth 100000 in
theorem k_X3_mergeScalar (l : Launch) (G : GT) (S : SS) (sz : Nat) {i : Nat} (hi : i < 2) {a b n k : Nat} (ha : a < 40) (hb4 : b < 40) (hn : n < 16) (hk : k < 3) {r0 : Nat} (hr0 : r0 < 40) : Met l yX3_mergeScalar wsX3_mergeScalar ({ frames := 2, cells := 0, slots := 0, locals := 54 } : Room) (va_Pc [.ref (gA G 0), .int (nI i), .int (nI a), .int (nI b), .int (nI n), .int (nI k), .int (nI r0)] (fun U => U.heap.size = sz ∧ mP G S U)) (va_Qv (fun S' => S' = msS S i a b n k r0) (mB G) (gF G sz)) 0 0 (gF G sz) := by
  refine Met.ofW (cc := cX3_mergeScalar) (maxL := 18) (ret := none) (by decide) rfl ?_
  intro p e s m args below meth c s₁ B hml hv
  obtain ⟨rfl, hsz, hW, hK⟩ := hv
  subst hsz
  have hx := B.exec
  have hb := B.bytes
  have hr := B.returns
  have hts := atoms_spec (ws := wsX3_mergeScalar) B.pre
  have hown : s.vm.findClass RX3 = some m.cls := findClass_of_methodNamed B.named
  have hlocks := B.notSynchronized
  have hS : va_S (gF G s.heap.size) s.heap s.heap [] := va_S.rf
  have inX3 : ∀ w ∈ u_ws RX3 TX3 22, w ∈ wsX3_mergeScalar := by decide +kernel
  have hl := lv_entry ([.ref (gA G 0), .int (nI i), .int (nI a), .int (nI b), .int (nI n), .int (nI k), .int (nI r0)]) (n := 18) (Nat.le_of_ble_eq_true rfl)
  rw [lg_entry_eq]
  generalize (lg_sl ([.ref (gA G 0), .int (nI i), .int (nI a), .int (nI b), .int (nI n), .int (nI k), .int (nI r0)]) ++ List.replicate (18 - (lg_sl ([.ref (gA G 0), .int (nI i), .int (nI a), .int (nI b), .int (nI n), .int (nI k), .int (nI r0)])).length) Slot.unset).toArray = ls at hl ⊢
  have hl : lv_has ls 18 [(0, .ref (gA G 0)), (1, .int (nI i)), (2, .int (nI a)), (3, .int (nI b)), (4, .int (nI n)), (5, .int (nI k)), (6, .int (nI r0))] := hl
  have K156 : ∀ (ow : Int64) (fr : Nat), ow = msO S a b n k → fr = msF S i a b n k → fr < 40 → (¬ (¬ 0 ≤ S.1 12 (48 * i + 3 * n + k) ∧ ¬ 0 ≤ itI S a b n k)) → ∀ (ls : Array Slot), lv_has ls 18 [(0, .ref (gA G 0)), (1, .int (nI i)), (2, .int (nI a)), (3, .int (nI b)), (4, .int (nI n)), (5, .int (nI k)), (6, .int (nI r0)), (7, .int (itI S a b n k)), (8, .int (S.1 12 (48 * i + 3 * n + k))), (9, .int (nI (3 * n + k))), (14, .long ow), (16, .int (nI fr))] → W p l e (headSpec wsX3_mergeScalar ({ frames := 2, cells := 0, slots := 0, locals := 54 } : Room)).room s m ([.ref (gA G 0), .int (nI i), .int (nI a), .int (nI b), .int (nI n), .int (nI k), .int (nI r0)] : List Value).toArray below meth c s.heap [] 0 0 (MQ below (va_Qv (fun S' => S' = msS S i a b n k r0) (mB G) (gF G s.heap.size)) ([.ref (gA G 0), .int (nI i), .int (nI a), .int (nI b), .int (nI n), .int (nI k), .int (nI r0)] : List Value).toArray s 0 0 (gF G s.heap.size)) (F0 m 156 ls []) := by
    intro ow fr how hfr hf40 hno ls hl
    refine lv_iload hx hb dX3_mergeScalar_156 (lv_at hl 8 rfl) ?_
    refine lv_if_lt (tgt := 174) hx hb dX3_mergeScalar_158 (by decide) (fun c_158 => ?_) (fun c_158 => ?_)
    · refine lv_iconst (v := nI 1) hx hb dX3_mergeScalar_174 (by decide) ?_
      refine lv_goto (tgt := 179) hx hb dX3_mergeScalar_175 (by decide) ?_
      refine lv_istore (lv' := [(17, .int (nI 1)), (0, .ref (gA G 0)), (1, .int (nI i)), (2, .int (nI a)), (3, .int (nI b)), (4, .int (nI n)), (5, .int (nI k)), (6, .int (nI r0)), (7, .int (itI S a b n k)), (8, .int (S.1 12 (48 * i + 3 * n + k))), (9, .int (nI (3 * n + k))), (14, .long ow), (16, .int (nI fr))]) hx hb dX3_mergeScalar_179 hl (by decide) rfl (fun ls hl => ?_)
      refine lv_aload_n hx hb dX3_mergeScalar_181 rfl (lv_at hl 1 rfl) ?_
      refine lv_iload hx hb dX3_mergeScalar_182 (lv_at hl 12 rfl) ?_
      refine lv_bipush (v := nI 42) hx hb dX3_mergeScalar_184 (by decide) ?_
      refine lv_iload hx hb dX3_mergeScalar_186 (lv_at hl 5 rfl) ?_
      refine lv_iload hx hb dX3_mergeScalar_188 (lv_at hl 6 rfl) ?_
      refine ev_v (va_runV (As := [.int (nI fr), .int (nI 42), .int (nI n), .int (nI k)]) (rest := []) ⟨hx, hb, hml, hown, hts⟩ (k_X3_copyValue l G S s.heap.size (f := fr) (t := 42) (n := n) (by omega) (by omega) (by omega) (k := k) (by omega)) (cwV 4 hts gX3_mergeScalar_X3_copyValue rfl rfl rfl (by decide +kernel) ⟨Nat.le_of_ble_eq_true rfl, Nat.le_of_ble_eq_true rfl⟩) ⟨mQ_blind, m_recv hW hK, mQ_at hW hK hS⟩ rfl rfl hl.1 rfl (lv_room (Nat.le_of_ble_eq_true rfl)) dX3_mergeScalar_190 ⟨Nat.le_of_ble_eq_true rfl, Nat.le_of_ble_eq_true rfl⟩) hS (fun S_1 t9 H locs ht9 hS_1 hW hS => ?_)
      have hW : mW G S_1 H := ht9 ▸ hW
      refine lv_aload_n hx hb dX3_mergeScalar_193 rfl (lv_at hl 1 rfl) ?_
      refine va_get (D := gD G) (ci := 3) (v := .ref (gA G 9)) (C := RX3) (T := TX3) (N := 22) hx hb hts inX3 hown hK.1 hW 0 mw_0 rfl 11 (by decide) (hts (.fieldLink RX3 43 "MarkedTreesModel" "marks" "[J") (by decide +kernel)) (fun _ h9 => h9) rfl dX3_mergeScalar_194 ?_
      refine lv_sipush (v := nI 2016) hx hb dX3_mergeScalar_197 (by decide) ?_
      refine lv_iload hx hb dX3_mergeScalar_200 (lv_at hl 10 rfl) ?_
      refine nv_iadd hx hb dX3_mergeScalar_202 ?_
      refine lv_iload hx hb dX3_mergeScalar_203 (lv_at hl 0 rfl) ?_
      refine lv_if_eq (tgt := 213) hx hb dX3_mergeScalar_205 (by decide) (fun c_205 => ?_) (fun c_205 => ?_)
      · exact absurd c_205 (by decide)
      · refine lv_lload hx hb dX3_mergeScalar_208 (lv_at hl 11 rfl) ?_
        refine lv_goto (tgt := 217) hx hb dX3_mergeScalar_210 (by decide) ?_
        refine nv_last hx hb hK.1 hW (wl_D hK.2.1) hS 9 1 mw_9 rfl (i := 2016 + (3 * n + k)) (by omega) (by decide) dX3_mergeScalar_217 (fun H locs hW hS => ?_)
        have hW : mW G (s2 S_1 9 (2016 + (3 * n + k)) ow) H := mp_9 hW
        obtain ⟨S_2, eS_2⟩ : ∃ z, z = s2 S_1 9 (2016 + (3 * n + k)) ow := ⟨_, rfl⟩
        rw [← eS_2] at hW
        exact W.vret hx hb hr (fun t9 ht9 _ => ⟨⟨S_2, rfl, (by rw [msS, if_neg hno, if_pos (Or.inl c_158), ← hfr, ← how]; subst_vars; rfl), (show mW G S_2 t9.heap by rw [ht9]; exact hW)⟩, hS.F ht9⟩) hS.2.2 dX3_mergeScalar_218
    · refine lv_iload hx hb dX3_mergeScalar_161 (lv_at hl 7 rfl) ?_
      refine lv_iconst (v := nI 2) hx hb dX3_mergeScalar_163 (by decide) ?_
      refine lv_icmp_eq (tgt := 174) hx hb dX3_mergeScalar_164 (by decide) (fun c_164 => ?_) (fun c_164 => ?_)
      · refine lv_iconst (v := nI 1) hx hb dX3_mergeScalar_174 (by decide) ?_
        refine lv_goto (tgt := 179) hx hb dX3_mergeScalar_175 (by decide) ?_
        refine lv_istore (lv' := [(17, .int (nI 1)), (0, .ref (gA G 0)), (1, .int (nI i)), (2, .int (nI a)), (3, .int (nI b)), (4, .int (nI n)), (5, .int (nI k)), (6, .int (nI r0)), (7, .int (itI S a b n k)), (8, .int (S.1 12 (48 * i + 3 * n + k))), (9, .int (nI (3 * n + k))), (14, .long ow), (16, .int (nI fr))]) hx hb dX3_mergeScalar_179 hl (by decide) rfl (fun ls hl => ?_)
        refine lv_aload_n hx hb dX3_mergeScalar_181 rfl (lv_at hl 1 rfl) ?_
        refine lv_iload hx hb dX3_mergeScalar_182 (lv_at hl 12 rfl) ?_
        refine lv_bipush (v := nI 42) hx hb dX3_mergeScalar_184 (by decide) ?_
        refine lv_iload hx hb dX3_mergeScalar_186 (lv_at hl 5 rfl) ?_
        refine lv_iload hx hb dX3_mergeScalar_188 (lv_at hl 6 rfl) ?_
        refine ev_v (va_runV (As := [.int (nI fr), .int (nI 42), .int (nI n), .int (nI k)]) (rest := []) ⟨hx, hb, hml, hown, hts⟩ (k_X3_copyValue l G S s.heap.size (f := fr) (t := 42) (n := n) (by omega) (by omega) (by omega) (k := k) (by omega)) (cwV 4 hts gX3_mergeScalar_X3_copyValue rfl rfl rfl (by decide +kernel) ⟨Nat.le_of_ble_eq_true rfl, Nat.le_of_ble_eq_true rfl⟩) ⟨mQ_blind, m_recv hW hK, mQ_at hW hK hS⟩ rfl rfl hl.1 rfl (lv_room (Nat.le_of_ble_eq_true rfl)) dX3_mergeScalar_190 ⟨Nat.le_of_ble_eq_true rfl, Nat.le_of_ble_eq_true rfl⟩) hS (fun S_3 t9 H locs ht9 hS_3 hW hS => ?_)
        have hW : mW G S_3 H := ht9 ▸ hW
        refine lv_aload_n hx hb dX3_mergeScalar_193 rfl (lv_at hl 1 rfl) ?_
        refine va_get (D := gD G) (ci := 3) (v := .ref (gA G 9)) (C := RX3) (T := TX3) (N := 22) hx hb hts inX3 hown hK.1 hW 0 mw_0 rfl 11 (by decide) (hts (.fieldLink RX3 43 "MarkedTreesModel" "marks" "[J") (by decide +kernel)) (fun _ h9 => h9) rfl dX3_mergeScalar_194 ?_
        refine lv_sipush (v := nI 2016) hx hb dX3_mergeScalar_197 (by decide) ?_
        refine lv_iload hx hb dX3_mergeScalar_200 (lv_at hl 10 rfl) ?_
        refine nv_iadd hx hb dX3_mergeScalar_202 ?_
        refine lv_iload hx hb dX3_mergeScalar_203 (lv_at hl 0 rfl) ?_
        refine lv_if_eq (tgt := 213) hx hb dX3_mergeScalar_205 (by decide) (fun c_205 => ?_) (fun c_205 => ?_)
        · exact absurd c_205 (by decide)
        · refine lv_lload hx hb dX3_mergeScalar_208 (lv_at hl 11 rfl) ?_
          refine lv_goto (tgt := 217) hx hb dX3_mergeScalar_210 (by decide) ?_
          refine nv_last hx hb hK.1 hW (wl_D hK.2.1) hS 9 1 mw_9 rfl (i := 2016 + (3 * n + k)) (by omega) (by decide) dX3_mergeScalar_217 (fun H locs hW hS => ?_)
          have hW : mW G (s2 S_3 9 (2016 + (3 * n + k)) ow) H := mp_9 hW
          obtain ⟨S_4, eS_4⟩ : ∃ z, z = s2 S_3 9 (2016 + (3 * n + k)) ow := ⟨_, rfl⟩
          rw [← eS_4] at hW
          exact W.vret hx hb hr (fun t9 ht9 _ => ⟨⟨S_4, rfl, (by rw [msS, if_neg hno, if_pos (Or.inr (Or.inl c_164)), ← hfr, ← how]; subst_vars; rfl), (show mW G S_4 t9.heap by rw [ht9]; exact hW)⟩, hS.F ht9⟩) hS.2.2 dX3_mergeScalar_218
      · refine lv_iload hx hb dX3_mergeScalar_167 (lv_at hl 7 rfl) ?_
        refine lv_iload hx hb dX3_mergeScalar_169 (lv_at hl 8 rfl) ?_
        refine lv_icmp_ne (tgt := 178) hx hb dX3_mergeScalar_171 (by decide) (fun c_171 => ?_) (fun c_171 => ?_)
        · refine lv_iconst (v := nI 0) hx hb dX3_mergeScalar_178 (by decide) ?_
          refine lv_istore (lv' := [(17, .int (nI 0)), (0, .ref (gA G 0)), (1, .int (nI i)), (2, .int (nI a)), (3, .int (nI b)), (4, .int (nI n)), (5, .int (nI k)), (6, .int (nI r0)), (7, .int (itI S a b n k)), (8, .int (S.1 12 (48 * i + 3 * n + k))), (9, .int (nI (3 * n + k))), (14, .long ow), (16, .int (nI fr))]) hx hb dX3_mergeScalar_179 hl (by decide) rfl (fun ls hl => ?_)
          refine lv_aload_n hx hb dX3_mergeScalar_181 rfl (lv_at hl 1 rfl) ?_
          refine lv_iload hx hb dX3_mergeScalar_182 (lv_at hl 12 rfl) ?_
          refine lv_bipush (v := nI 42) hx hb dX3_mergeScalar_184 (by decide) ?_
          refine lv_iload hx hb dX3_mergeScalar_186 (lv_at hl 5 rfl) ?_
          refine lv_iload hx hb dX3_mergeScalar_188 (lv_at hl 6 rfl) ?_
          refine ev_v (va_runV (As := [.int (nI fr), .int (nI 42), .int (nI n), .int (nI k)]) (rest := []) ⟨hx, hb, hml, hown, hts⟩ (k_X3_copyValue l G S s.heap.size (f := fr) (t := 42) (n := n) (by omega) (by omega) (by omega) (k := k) (by omega)) (cwV 4 hts gX3_mergeScalar_X3_copyValue rfl rfl rfl (by decide +kernel) ⟨Nat.le_of_ble_eq_true rfl, Nat.le_of_ble_eq_true rfl⟩) ⟨mQ_blind, m_recv hW hK, mQ_at hW hK hS⟩ rfl rfl hl.1 rfl (lv_room (Nat.le_of_ble_eq_true rfl)) dX3_mergeScalar_190 ⟨Nat.le_of_ble_eq_true rfl, Nat.le_of_ble_eq_true rfl⟩) hS (fun S_5 t9 H locs ht9 hS_5 hW hS => ?_)
          have hW : mW G S_5 H := ht9 ▸ hW
          refine lv_aload_n hx hb dX3_mergeScalar_193 rfl (lv_at hl 1 rfl) ?_
          refine va_get (D := gD G) (ci := 3) (v := .ref (gA G 9)) (C := RX3) (T := TX3) (N := 22) hx hb hts inX3 hown hK.1 hW 0 mw_0 rfl 11 (by decide) (hts (.fieldLink RX3 43 "MarkedTreesModel" "marks" "[J") (by decide +kernel)) (fun _ h9 => h9) rfl dX3_mergeScalar_194 ?_
          refine lv_sipush (v := nI 2016) hx hb dX3_mergeScalar_197 (by decide) ?_
          refine lv_iload hx hb dX3_mergeScalar_200 (lv_at hl 10 rfl) ?_
          refine nv_iadd hx hb dX3_mergeScalar_202 ?_
          refine lv_iload hx hb dX3_mergeScalar_203 (lv_at hl 0 rfl) ?_
          refine lv_if_eq (tgt := 213) hx hb dX3_mergeScalar_205 (by decide) (fun c_205 => ?_) (fun c_205 => ?_)
          · refine lv_lconst (v := 1) hx hb dX3_mergeScalar_213 (by decide) ?_
            refine lv_iload hx hb dX3_mergeScalar_214 (lv_at hl 7 rfl) ?_
            refine lv_lshl (v := 1 <<< ((nI r0).toInt64 &&& 63)) hx hb dX3_mergeScalar_216 rfl ?_
            refine nv_last hx hb hK.1 hW (wl_D hK.2.1) hS 9 1 mw_9 rfl (i := 2016 + (3 * n + k)) (by omega) (by decide) dX3_mergeScalar_217 (fun H locs hW hS => ?_)
            have hW : mW G (s2 S_5 9 (2016 + (3 * n + k)) (1 <<< ((nI r0).toInt64 &&& 63))) H := mp_9 hW
            obtain ⟨S_6, eS_6⟩ : ∃ z, z = s2 S_5 9 (2016 + (3 * n + k)) (1 <<< ((nI r0).toInt64 &&& 63)) := ⟨_, rfl⟩
            rw [← eS_6] at hW
            exact W.vret hx hb hr (fun t9 ht9 _ => ⟨⟨S_6, rfl, (by rw [msS, if_neg hno, if_neg (fun h => h.elim c_158 (fun h => h.elim c_164 c_171)), ← hfr]; subst_vars; rfl), (show mW G S_6 t9.heap by rw [ht9]; exact hW)⟩, hS.F ht9⟩) hS.2.2 dX3_mergeScalar_218
          · exact absurd c_205 (by decide)
        · refine lv_iconst (v := nI 1) hx hb dX3_mergeScalar_174 (by decide) ?_
          refine lv_goto (tgt := 179) hx hb dX3_mergeScalar_175 (by decide) ?_
          refine lv_istore (lv' := [(17, .int (nI 1)), (0, .ref (gA G 0)), (1, .int (nI i)), (2, .int (nI a)), (3, .int (nI b)), (4, .int (nI n)), (5, .int (nI k)), (6, .int (nI r0)), (7, .int (itI S a b n k)), (8, .int (S.1 12 (48 * i + 3 * n + k))), (9, .int (nI (3 * n + k))), (14, .long ow), (16, .int (nI fr))]) hx hb dX3_mergeScalar_179 hl (by decide) rfl (fun ls hl => ?_)
          refine lv_aload_n hx hb dX3_mergeScalar_181 rfl (lv_at hl 1 rfl) ?_
          refine lv_iload hx hb dX3_mergeScalar_182 (lv_at hl 12 rfl) ?_
          refine lv_bipush (v := nI 42) hx hb dX3_mergeScalar_184 (by decide) ?_
          refine lv_iload hx hb dX3_mergeScalar_186 (lv_at hl 5 rfl) ?_
          refine lv_iload hx hb dX3_mergeScalar_188 (lv_at hl 6 rfl) ?_
          refine ev_v (va_runV (As := [.int (nI fr), .int (nI 42), .int (nI n), .int (nI k)]) (rest := []) ⟨hx, hb, hml, hown, hts⟩ (k_X3_copyValue l G S s.heap.size (f := fr) (t := 42) (n := n) (by omega) (by omega) (by omega) (k := k) (by omega)) (cwV 4 hts gX3_mergeScalar_X3_copyValue rfl rfl rfl (by decide +kernel) ⟨Nat.le_of_ble_eq_true rfl, Nat.le_of_ble_eq_true rfl⟩) ⟨mQ_blind, m_recv hW hK, mQ_at hW hK hS⟩ rfl rfl hl.1 rfl (lv_room (Nat.le_of_ble_eq_true rfl)) dX3_mergeScalar_190 ⟨Nat.le_of_ble_eq_true rfl, Nat.le_of_ble_eq_true rfl⟩) hS (fun S_7 t9 H locs ht9 hS_7 hW hS => ?_)
          have hW : mW G S_7 H := ht9 ▸ hW
          refine lv_aload_n hx hb dX3_mergeScalar_193 rfl (lv_at hl 1 rfl) ?_
          refine va_get (D := gD G) (ci := 3) (v := .ref (gA G 9)) (C := RX3) (T := TX3) (N := 22) hx hb hts inX3 hown hK.1 hW 0 mw_0 rfl 11 (by decide) (hts (.fieldLink RX3 43 "MarkedTreesModel" "marks" "[J") (by decide +kernel)) (fun _ h9 => h9) rfl dX3_mergeScalar_194 ?_
          refine lv_sipush (v := nI 2016) hx hb dX3_mergeScalar_197 (by decide) ?_
          refine lv_iload hx hb dX3_mergeScalar_200 (lv_at hl 10 rfl) ?_
          refine nv_iadd hx hb dX3_mergeScalar_202 ?_
          refine lv_iload hx hb dX3_mergeScalar_203 (lv_at hl 0 rfl) ?_
          refine lv_if_eq (tgt := 213) hx hb dX3_mergeScalar_205 (by decide) (fun c_205 => ?_) (fun c_205 => ?_)
          · exact absurd c_205 (by decide)
          · refine lv_lload hx hb dX3_mergeScalar_208 (lv_at hl 11 rfl) ?_
            refine lv_goto (tgt := 217) hx hb dX3_mergeScalar_210 (by decide) ?_
            refine nv_last hx hb hK.1 hW (wl_D hK.2.1) hS 9 1 mw_9 rfl (i := 2016 + (3 * n + k)) (by omega) (by decide) dX3_mergeScalar_217 (fun H locs hW hS => ?_)
            have hW : mW G (s2 S_7 9 (2016 + (3 * n + k)) ow) H := mp_9 hW
            obtain ⟨S_8, eS_8⟩ : ∃ z, z = s2 S_7 9 (2016 + (3 * n + k)) ow := ⟨_, rfl⟩
            rw [← eS_8] at hW
            exact W.vret hx hb hr (fun t9 ht9 _ => ⟨⟨S_8, rfl, (by rw [msS, if_neg hno, if_pos (Or.inr (Or.inr c_171)), ← hfr, ← how]; subst_vars; rfl), (show mW G S_8 t9.heap by rw [ht9]; exact hW)⟩, hS.F ht9⟩) hS.2.2 dX3_mergeScalar_218
  have K100 : ∀ (ow : Int64), ow = msO S a b n k → ∀ (ls : Array Slot), lv_has ls 18 [(0, .ref (gA G 0)), (1, .int (nI i)), (2, .int (nI a)), (3, .int (nI b)), (4, .int (nI n)), (5, .int (nI k)), (6, .int (nI r0)), (7, .int (itI S a b n k)), (8, .int (S.1 12 (48 * i + 3 * n + k))), (9, .int (nI (3 * n + k))), (14, .long ow)] → W p l e (headSpec wsX3_mergeScalar ({ frames := 2, cells := 0, slots := 0, locals := 54 } : Room)).room s m ([.ref (gA G 0), .int (nI i), .int (nI a), .int (nI b), .int (nI n), .int (nI k), .int (nI r0)] : List Value).toArray below meth c s.heap [] 0 0 (MQ below (va_Qv (fun S' => S' = msS S i a b n k r0) (mB G) (gF G s.heap.size)) ([.ref (gA G 0), .int (nI i), .int (nI a), .int (nI b), .int (nI n), .int (nI k), .int (nI r0)] : List Value).toArray s 0 0 (gF G s.heap.size)) (F0 m 100 ls []) := by
    intro ow how ls hl
    refine lv_iload hx hb dX3_mergeScalar_100 (lv_at hl 8 rfl) ?_
    refine lv_if_ge (tgt := 125) hx hb dX3_mergeScalar_102 (by decide) (fun c_102 => ?_) (fun c_102 => ?_)
    · refine lv_iload hx hb dX3_mergeScalar_125 (lv_at hl 8 rfl) ?_
      refine lv_if_ge (tgt := 144) hx hb dX3_mergeScalar_127 (by decide) (fun c_127 => ?_) (fun c_127 => ?_)
      · refine lv_iload hx hb dX3_mergeScalar_144 (lv_at hl 8 rfl) ?_
        refine lv_if_ne (tgt := 153) hx hb dX3_mergeScalar_146 (by decide) (fun c_146 => ?_) (fun c_146 => ?_)
        · refine lv_iload_n hx hb dX3_mergeScalar_153 rfl (lv_at hl 3 rfl) ?_
          refine lv_istore (lv' := [(16, .int (nI b)), (0, .ref (gA G 0)), (1, .int (nI i)), (2, .int (nI a)), (3, .int (nI b)), (4, .int (nI n)), (5, .int (nI k)), (6, .int (nI r0)), (7, .int (itI S a b n k)), (8, .int (S.1 12 (48 * i + 3 * n + k))), (9, .int (nI (3 * n + k))), (14, .long ow)]) hx hb dX3_mergeScalar_154 hl (by decide) rfl (fun ls hl => ?_)
          exact K156 ow b how (by rw [msF, if_pos c_102, if_neg c_146]) (by omega) (fun h => h.1 c_102) ls (lv_sub hl [1, 2, 3, 4, 5, 6, 7, 8, 9, 10, 11, 0] rfl)
        · refine lv_iload_n hx hb dX3_mergeScalar_149 rfl (lv_at hl 2 rfl) ?_
          refine lv_goto (tgt := 154) hx hb dX3_mergeScalar_150 (by decide) ?_
          refine lv_istore (lv' := [(16, .int (nI a)), (0, .ref (gA G 0)), (1, .int (nI i)), (2, .int (nI a)), (3, .int (nI b)), (4, .int (nI n)), (5, .int (nI k)), (6, .int (nI r0)), (7, .int (itI S a b n k)), (8, .int (S.1 12 (48 * i + 3 * n + k))), (9, .int (nI (3 * n + k))), (14, .long ow)]) hx hb dX3_mergeScalar_154 hl (by decide) rfl (fun ls hl => ?_)
          exact K156 ow a how (by rw [msF, if_pos c_102, if_pos c_146]) (by omega) (fun h => h.1 c_102) ls (lv_sub hl [1, 2, 3, 4, 5, 6, 7, 8, 9, 10, 11, 0] rfl)
      · exact absurd c_102 c_127
    · refine lv_iload hx hb dX3_mergeScalar_105 (lv_at hl 7 rfl) ?_
      refine lv_if_ge (tgt := 125) hx hb dX3_mergeScalar_107 (by decide) (fun c_107 => ?_) (fun c_107 => ?_)
      · refine lv_iload hx hb dX3_mergeScalar_125 (lv_at hl 8 rfl) ?_
        refine lv_if_ge (tgt := 144) hx hb dX3_mergeScalar_127 (by decide) (fun c_127 => ?_) (fun c_127 => ?_)
        · exact absurd c_127 c_102
        · refine lv_iload hx hb dX3_mergeScalar_130 (lv_at hl 7 rfl) ?_
          refine lv_iconst (v := nI 1) hx hb dX3_mergeScalar_132 (by decide) ?_
          refine lv_icmp_ne (tgt := 140) hx hb dX3_mergeScalar_133 (by decide) (fun c_133 => ?_) (fun c_133 => ?_)
          · refine lv_iload_n hx hb dX3_mergeScalar_140 rfl (lv_at hl 2 rfl) ?_
            refine lv_goto (tgt := 154) hx hb dX3_mergeScalar_141 (by decide) ?_
            refine lv_istore (lv' := [(16, .int (nI a)), (0, .ref (gA G 0)), (1, .int (nI i)), (2, .int (nI a)), (3, .int (nI b)), (4, .int (nI n)), (5, .int (nI k)), (6, .int (nI r0)), (7, .int (itI S a b n k)), (8, .int (S.1 12 (48 * i + 3 * n + k))), (9, .int (nI (3 * n + k))), (14, .long ow)]) hx hb dX3_mergeScalar_154 hl (by decide) rfl (fun ls hl => ?_)
            exact K156 ow a how (by rw [msF, if_neg c_102, if_neg c_133]) (by omega) (fun h => h.2 c_107) ls (lv_sub hl [1, 2, 3, 4, 5, 6, 7, 8, 9, 10, 11, 0] rfl)
          · refine lv_iload_n hx hb dX3_mergeScalar_136 rfl (lv_at hl 3 rfl) ?_
            refine lv_goto (tgt := 154) hx hb dX3_mergeScalar_137 (by decide) ?_
            refine lv_istore (lv' := [(16, .int (nI b)), (0, .ref (gA G 0)), (1, .int (nI i)), (2, .int (nI a)), (3, .int (nI b)), (4, .int (nI n)), (5, .int (nI k)), (6, .int (nI r0)), (7, .int (itI S a b n k)), (8, .int (S.1 12 (48 * i + 3 * n + k))), (9, .int (nI (3 * n + k))), (14, .long ow)]) hx hb dX3_mergeScalar_154 hl (by decide) rfl (fun ls hl => ?_)
            exact K156 ow b how (by rw [msF, if_neg c_102, if_pos c_133]) (by omega) (fun h => h.2 c_107) ls (lv_sub hl [1, 2, 3, 4, 5, 6, 7, 8, 9, 10, 11, 0] rfl)
      · refine lv_aload_n hx hb dX3_mergeScalar_110 rfl (lv_at hl 0 rfl) ?_
        refine va_get (D := gD G) (ci := 3) (v := .ref (gA G 19)) (C := RX3) (T := TX3) (N := 22) hx hb hts inX3 hown hK.1 hW 0 mw_0 rfl 21 (by decide) (hts (.fieldLink RX3 73 "MarkedTreesModel" "open" "[I") (by decide +kernel)) (fun _ h9 => h9) rfl dX3_mergeScalar_111 ?_
        refine lv_iload hx hb dX3_mergeScalar_114 (lv_at hl 4 rfl) ?_
        refine lv_dup2_11 hx hb dX3_mergeScalar_116 rfl rfl ?_
        refine nv_iald hx hb hK.1 hW 19 0 mw_19 rfl (i := n) (by omega) (by decide) dX3_mergeScalar_117 ?_
        refine lv_iconst (v := nI 1) hx hb dX3_mergeScalar_118 (by decide) ?_
        refine lv_iload hx hb dX3_mergeScalar_119 (lv_at hl 5 rfl) ?_
        refine lv_ishl hx hb dX3_mergeScalar_121 ?_
        refine lv_ior hx hb dX3_mergeScalar_122 ?_
        refine nv_iast hx hb hK.1 hW (wl_D hK.2.1) hS 19 0 mw_19 rfl (i := n) (by omega) (by decide) dX3_mergeScalar_123 (fun H locs hW hS => ?_)
        have hW : mW G (s1 S 19 n ((S.1 19 n) ||| ((nI 1) <<< ((nI k) &&& 31)))) H := mp_19 hW
        obtain ⟨S_9, eS_9⟩ : ∃ z, z = s1 S 19 n ((S.1 19 n) ||| ((nI 1) <<< ((nI k) &&& 31))) := ⟨_, rfl⟩
        rw [← eS_9] at hW
        exact W.vret hx hb hr (fun t9 ht9 _ => ⟨⟨S_9, rfl, (by rw [msS, if_pos ⟨c_102, c_107⟩]; exact eS_9), (show mW G S_9 t9.heap by rw [ht9]; exact hW)⟩, hS.F ht9⟩) hS.2.2 dX3_mergeScalar_124
  refine lv_aload_n hx hb dX3_mergeScalar_0 rfl (lv_at hl 0 rfl) ?_
  refine lv_iload_n hx hb dX3_mergeScalar_1 rfl (lv_at hl 2 rfl) ?_
  refine lv_iload_n hx hb dX3_mergeScalar_2 rfl (lv_at hl 3 rfl) ?_
  refine lv_iload hx hb dX3_mergeScalar_3 (lv_at hl 4 rfl) ?_
  refine lv_iload hx hb dX3_mergeScalar_5 (lv_at hl 5 rfl) ?_
  refine pv_i (va_runV (As := [.int (nI a), .int (nI b), .int (nI n), .int (nI k)]) (rest := []) ⟨hx, hb, hml, hown, hts⟩ (k_X3_itself l G S (a := a) (b := b) (n := n) (k := k) (by omega) (by omega) (by omega) (by omega)) (cwV 4 hts gX3_mergeScalar_X3_itself rfl rfl rfl (by decide +kernel) ⟨Nat.le_of_ble_eq_true rfl, Nat.le_of_ble_eq_true rfl⟩) ⟨mP_blind, m_recv hW hK, mP_at hW hK hS⟩ rfl rfl hl.1 rfl (lv_room (Nat.le_of_ble_eq_true rfl)) dX3_mergeScalar_7 ⟨Nat.le_of_ble_eq_true rfl, Nat.le_of_ble_eq_true rfl⟩) (fun r_10 hr_10 => ?_)
  have hr_10 : r_10 = itI S a b n k := hr_10
  subst hr_10
  refine lv_istore (lv' := [(7, .int (itI S a b n k)), (0, .ref (gA G 0)), (1, .int (nI i)), (2, .int (nI a)), (3, .int (nI b)), (4, .int (nI n)), (5, .int (nI k)), (6, .int (nI r0))]) hx hb dX3_mergeScalar_10 hl (by decide) rfl (fun ls hl => ?_)
  refine lv_aload_n hx hb dX3_mergeScalar_12 rfl (lv_at hl 1 rfl) ?_
  refine va_get (D := gD G) (ci := 3) (v := .ref (gA G 12)) (C := RX3) (T := TX3) (N := 22) hx hb hts inX3 hown hK.1 hW 0 mw_0 rfl 14 (by decide) (hts (.fieldLink RX3 52 "MarkedTreesModel" "decided" "[I") (by decide +kernel)) (fun _ h9 => h9) rfl dX3_mergeScalar_13 ?_
  refine lv_bipush (v := nI 48) hx hb dX3_mergeScalar_16 (by decide) ?_
  refine lv_iload_n hx hb dX3_mergeScalar_18 rfl (lv_at hl 2 rfl) ?_
  refine nv_imul hx hb dX3_mergeScalar_19 ?_
  refine lv_iconst (v := nI 3) hx hb dX3_mergeScalar_20 (by decide) ?_
  refine lv_iload hx hb dX3_mergeScalar_21 (lv_at hl 5 rfl) ?_
  refine nv_imul hx hb dX3_mergeScalar_23 ?_
  refine nv_iadd hx hb dX3_mergeScalar_24 ?_
  refine lv_iload hx hb dX3_mergeScalar_25 (lv_at hl 6 rfl) ?_
  refine nv_iadd hx hb dX3_mergeScalar_27 ?_
  refine nv_iald hx hb hK.1 hW 12 0 mw_12 rfl (i := ((48 * i) + (3 * n)) + k) (by omega) (by decide) dX3_mergeScalar_28 ?_
  refine lv_istore (lv' := [(8, .int (S.1 12 (((48 * i) + (3 * n)) + k))), (7, .int (itI S a b n k)), (0, .ref (gA G 0)), (1, .int (nI i)), (2, .int (nI a)), (3, .int (nI b)), (4, .int (nI n)), (5, .int (nI k)), (6, .int (nI r0))]) hx hb dX3_mergeScalar_29 hl (by decide) rfl (fun ls hl => ?_)
  refine lv_iconst (v := nI 3) hx hb dX3_mergeScalar_31 (by decide) ?_
  refine lv_iload hx hb dX3_mergeScalar_32 (lv_at hl 6 rfl) ?_
  refine nv_imul hx hb dX3_mergeScalar_34 ?_
  refine lv_iload hx hb dX3_mergeScalar_35 (lv_at hl 7 rfl) ?_
  refine nv_iadd hx hb dX3_mergeScalar_37 ?_
  refine lv_istore (lv' := [(9, .int (nI ((3 * n) + k))), (8, .int (S.1 12 (((48 * i) + (3 * n)) + k))), (7, .int (itI S a b n k)), (0, .ref (gA G 0)), (1, .int (nI i)), (2, .int (nI a)), (3, .int (nI b)), (4, .int (nI n)), (5, .int (nI k)), (6, .int (nI r0))]) hx hb dX3_mergeScalar_38 hl (by decide) rfl (fun ls hl => ?_)
  refine lv_aload_n hx hb dX3_mergeScalar_40 rfl (lv_at hl 3 rfl) ?_
  refine va_get (D := gD G) (ci := 3) (v := .ref (gA G 9)) (C := RX3) (T := TX3) (N := 22) hx hb hts inX3 hown hK.1 hW 0 mw_0 rfl 11 (by decide) (hts (.fieldLink RX3 43 "MarkedTreesModel" "marks" "[J") (by decide +kernel)) (fun _ h9 => h9) rfl dX3_mergeScalar_41 ?_
  refine lv_bipush (v := nI 48) hx hb dX3_mergeScalar_44 (by decide) ?_
  refine lv_iload_n hx hb dX3_mergeScalar_46 rfl (lv_at hl 5 rfl) ?_
  refine nv_imul hx hb dX3_mergeScalar_47 ?_
  refine lv_iload hx hb dX3_mergeScalar_48 (lv_at hl 0 rfl) ?_
  refine nv_iadd hx hb dX3_mergeScalar_50 ?_
  refine nv_lald hx hb hK.1 hW 9 1 mw_9 rfl (i := (48 * a) + ((3 * n) + k)) (by omega) (by decide) dX3_mergeScalar_51 ?_
  refine lv_lstore (lv' := [(10, .long (S.2 9 ((48 * a) + ((3 * n) + k)))), (9, .int (nI ((3 * n) + k))), (8, .int (S.1 12 (((48 * i) + (3 * n)) + k))), (7, .int (itI S a b n k)), (0, .ref (gA G 0)), (1, .int (nI i)), (2, .int (nI a)), (3, .int (nI b)), (4, .int (nI n)), (5, .int (nI k)), (6, .int (nI r0))]) hx hb dX3_mergeScalar_52 hl (by decide) rfl (fun ls hl => ?_)
  refine lv_aload_n hx hb dX3_mergeScalar_54 rfl (lv_at hl 4 rfl) ?_
  refine va_get (D := gD G) (ci := 3) (v := .ref (gA G 9)) (C := RX3) (T := TX3) (N := 22) hx hb hts inX3 hown hK.1 hW 0 mw_0 rfl 11 (by decide) (hts (.fieldLink RX3 43 "MarkedTreesModel" "marks" "[J") (by decide +kernel)) (fun _ h9 => h9) rfl dX3_mergeScalar_55 ?_
  refine lv_bipush (v := nI 48) hx hb dX3_mergeScalar_58 (by decide) ?_
  refine lv_iload_n hx hb dX3_mergeScalar_60 rfl (lv_at hl 7 rfl) ?_
  refine nv_imul hx hb dX3_mergeScalar_61 ?_
  refine lv_iload hx hb dX3_mergeScalar_62 (lv_at hl 1 rfl) ?_
  refine nv_iadd hx hb dX3_mergeScalar_64 ?_
  refine nv_lald hx hb hK.1 hW 9 1 mw_9 rfl (i := (48 * b) + ((3 * n) + k)) (by omega) (by decide) dX3_mergeScalar_65 ?_
  refine lv_lstore (lv' := [(12, .long (S.2 9 ((48 * b) + ((3 * n) + k)))), (10, .long (S.2 9 ((48 * a) + ((3 * n) + k)))), (9, .int (nI ((3 * n) + k))), (8, .int (S.1 12 (((48 * i) + (3 * n)) + k))), (7, .int (itI S a b n k)), (0, .ref (gA G 0)), (1, .int (nI i)), (2, .int (nI a)), (3, .int (nI b)), (4, .int (nI n)), (5, .int (nI k)), (6, .int (nI r0))]) hx hb dX3_mergeScalar_66 hl (by decide) rfl (fun ls hl => ?_)
  refine lv_iload hx hb dX3_mergeScalar_68 (lv_at hl 4 rfl) ?_
  refine lv_iconst (v := nI 2) hx hb dX3_mergeScalar_70 (by decide) ?_
  refine lv_icmp_ne (tgt := 86) hx hb dX3_mergeScalar_71 (by decide) (fun c_71 => ?_) (fun c_71 => ?_)
  · refine lv_iload hx hb dX3_mergeScalar_86 (lv_at hl 4 rfl) ?_
    refine lv_if_ne (tgt := 96) hx hb dX3_mergeScalar_88 (by decide) (fun c_88 => ?_) (fun c_88 => ?_)
    · refine lv_lload hx hb dX3_mergeScalar_96 (lv_at hl 0 rfl) ?_
      refine lv_lstore (lv' := [(14, .long (S.2 9 ((48 * b) + ((3 * n) + k)))), (12, .long (S.2 9 ((48 * b) + ((3 * n) + k)))), (10, .long (S.2 9 ((48 * a) + ((3 * n) + k)))), (9, .int (nI ((3 * n) + k))), (8, .int (S.1 12 (((48 * i) + (3 * n)) + k))), (7, .int (itI S a b n k)), (0, .ref (gA G 0)), (1, .int (nI i)), (2, .int (nI a)), (3, .int (nI b)), (4, .int (nI n)), (5, .int (nI k)), (6, .int (nI r0))]) hx hb dX3_mergeScalar_98 hl (by decide) rfl (fun ls hl => ?_)
-- LOCAL 8: has S.1 12 (((48 * i) + (3 * n)) + k), wanted S.1 12 (48 * i + 3 * n + k)
-- LOCAL 9: has nI ((3 * n) + k), wanted nI (3 * n + k)
      exact K100 _ (by rw [msO, if_neg c_71, if_neg c_88]) ls (lv_sub hl [6, 7, 8, 9, 10, 11, 12, 5, 4, 3, 0] rfl)
    · refine lv_lload hx hb dX3_mergeScalar_91 (lv_at hl 1 rfl) ?_
      refine lv_goto (tgt := 98) hx hb dX3_mergeScalar_93 (by decide) ?_
      refine lv_lstore (lv' := [(14, .long (S.2 9 ((48 * a) + ((3 * n) + k)))), (12, .long (S.2 9 ((48 * b) + ((3 * n) + k)))), (10, .long (S.2 9 ((48 * a) + ((3 * n) + k)))), (9, .int (nI ((3 * n) + k))), (8, .int (S.1 12 (((48 * i) + (3 * n)) + k))), (7, .int (itI S a b n k)), (0, .ref (gA G 0)), (1, .int (nI i)), (2, .int (nI a)), (3, .int (nI b)), (4, .int (nI n)), (5, .int (nI k)), (6, .int (nI r0))]) hx hb dX3_mergeScalar_98 hl (by decide) rfl (fun ls hl => ?_)
-- LOCAL 8: has S.1 12 (((48 * i) + (3 * n)) + k), wanted S.1 12 (48 * i + 3 * n + k)
-- LOCAL 9: has nI ((3 * n) + k), wanted nI (3 * n + k)
      exact K100 _ (by rw [msO, if_neg c_71, if_pos c_88]) ls (lv_sub hl [6, 7, 8, 9, 10, 11, 12, 5, 4, 3, 0] rfl)
  · refine lv_aload_n hx hb dX3_mergeScalar_74 rfl (lv_at hl 5 rfl) ?_
    refine lv_lload hx hb dX3_mergeScalar_75 (lv_at hl 1 rfl) ?_
    refine lv_lload hx hb dX3_mergeScalar_77 (lv_at hl 0 rfl) ?_
    refine lv_lor hx hb dX3_mergeScalar_79 ?_
    refine pv_l (va_runV (As := [.long ((S.2 9 ((48 * a) + ((3 * n) + k))) ||| (S.2 9 ((48 * b) + ((3 * n) + k))))]) (rest := []) ⟨hx, hb, hml, hown, hts⟩ (k_X3_latest l G S ((S.2 9 ((48 * a) + ((3 * n) + k))) ||| (S.2 9 ((48 * b) + ((3 * n) + k))))) (cwV 1 hts gX3_mergeScalar_X3_latest rfl rfl rfl (by decide +kernel) ⟨Nat.le_of_ble_eq_true rfl, Nat.le_of_ble_eq_true rfl⟩) ⟨mP_blind, m_recv hW hK, mP_at hW hK hS⟩ rfl rfl hl.1 rfl (lv_room (Nat.le_of_ble_eq_true rfl)) dX3_mergeScalar_80 ⟨Nat.le_of_ble_eq_true rfl, Nat.le_of_ble_eq_true rfl⟩) (fun r_11 hr_11 => ?_)
    have hr_11 : r_11 = mltG S ((S.2 9 ((48 * a) + ((3 * n) + k))) ||| (S.2 9 ((48 * b) + ((3 * n) + k)))) 40 0 ((S.2 9 ((48 * a) + ((3 * n) + k))) ||| (S.2 9 ((48 * b) + ((3 * n) + k)))) := hr_11
    subst hr_11
    refine lv_goto (tgt := 98) hx hb dX3_mergeScalar_83 (by decide) ?_
    refine lv_lstore (lv' := [(14, .long (mltG S ((S.2 9 ((48 * a) + ((3 * n) + k))) ||| (S.2 9 ((48 * b) + ((3 * n) + k)))) 40 0 ((S.2 9 ((48 * a) + ((3 * n) + k))) ||| (S.2 9 ((48 * b) + ((3 * n) + k)))))), (12, .long (S.2 9 ((48 * b) + ((3 * n) + k)))), (10, .long (S.2 9 ((48 * a) + ((3 * n) + k)))), (9, .int (nI ((3 * n) + k))), (8, .int (S.1 12 (((48 * i) + (3 * n)) + k))), (7, .int (itI S a b n k)), (0, .ref (gA G 0)), (1, .int (nI i)), (2, .int (nI a)), (3, .int (nI b)), (4, .int (nI n)), (5, .int (nI k)), (6, .int (nI r0))]) hx hb dX3_mergeScalar_98 hl (by decide) rfl (fun ls hl => ?_)
-- LOCAL 8: has S.1 12 (((48 * i) + (3 * n)) + k), wanted S.1 12 (48 * i + 3 * n + k)
-- LOCAL 9: has nI ((3 * n) + k), wanted nI (3 * n + k)
    exact K100 _ (by rw [msO, if_pos c_71]) ls (lv_sub hl [6, 7, 8, 9, 10, 11, 12, 5, 4, 3, 0] rfl)

set_option maxHeartbeats 4000000 in
set_option maxRecDepth 100000 in
theorem k_X3_listConflicts (l : Launch) (G : GT) (S : SS) (sz : Nat) {i : Nat} (hi : i < 2) : Met l yX3_listConflicts wsX3_listConflicts ({ frames := 3, cells := 0, slots := 0, locals := 67 } : Room) (va_Pc [.ref (gA G 0), .int (nI i)] (fun U => U.heap.size = sz ∧ mP G S U)) (va_Qv (fun S' => S' = (mlcG i 15 1 (s1 S 16 i (nI 0), 0)).1 ∧ S'.1 16 i = nI (mlcG i 15 1 (s1 S 16 i (nI 0), 0)).2 ∧ (mlcG i 15 1 (s1 S 16 i (nI 0), 0)).2 ≤ 60) (mB G) (gF G sz)) 0 0 (gF G sz) := by
  refine Met.ofW (cc := cX3_listConflicts) (maxL := 5) (ret := none) (by decide) rfl ?_
  intro p e s m args below meth c s₁ B hml hv
  obtain ⟨rfl, hsz, hW, hK⟩ := hv
  subst hsz
  have hx := B.exec
  have hb := B.bytes
  have hr := B.returns
  have hts := atoms_spec (ws := wsX3_listConflicts) B.pre
  have hown : s.vm.findClass RX3 = some m.cls := findClass_of_methodNamed B.named
  have hlocks := B.notSynchronized
  have hS : va_S (gF G s.heap.size) s.heap s.heap [] := va_S.rf
  have inX3 : ∀ w ∈ u_ws RX3 TX3 22, w ∈ wsX3_listConflicts := by decide +kernel
  have hl := lv_entry ([.ref (gA G 0), .int (nI i)]) (n := 5) (Nat.le_of_ble_eq_true rfl)
  rw [lg_entry_eq]
  generalize (lg_sl ([.ref (gA G 0), .int (nI i)]) ++ List.replicate (5 - (lg_sl ([.ref (gA G 0), .int (nI i)])).length) Slot.unset).toArray = ls at hl ⊢
  have hl : lv_has ls 5 [(0, .ref (gA G 0)), (1, .int (nI i))] := hl
  have LP : ∀ (k : Nat) (n : Nat) (Q : SS) (c0 : Nat) (H : Heap) (locs : List Loc), (mW G Q H) → (va_S (gF G s.heap.size) s.heap H locs) → (Q.1 16 i = nI c0) → (c0 + 4 ≤ 4 * n) → (1 ≤ n) → (n + k = 16) → ∀ (ls : Array Slot), lv_has ls 5 [(0, .ref (gA G 0)), (1, .int (nI i)), (2, .int (nI n))] → W p l e (headSpec wsX3_listConflicts ({ frames := 3, cells := 0, slots := 0, locals := 67 } : Room)).room s m ([.ref (gA G 0), .int (nI i)] : List Value).toArray below meth c H locs 0 0 (MQ below (va_Qv (fun S' => S' = (mlcG i k n (Q, c0)).1 ∧ S'.1 16 i = nI (mlcG i k n (Q, c0)).2 ∧ (mlcG i k n (Q, c0)).2 ≤ 60) (mB G) (gF G s.heap.size)) ([.ref (gA G 0), .int (nI i)] : List Value).toArray s 0 0 (gF G s.heap.size)) (F0 m 9 ls []) := by
    intro k
    induction k with
    | zero =>
      intro n Q c0 H locs hW hS hc hcb h1 h2 ls hl
      refine lv_iload_n hx hb dX3_listConflicts_9 rfl (lv_at hl 2 rfl) ?_
      refine lv_bipush (v := nI 16) hx hb dX3_listConflicts_10 (by decide) ?_
      refine nv_icmp_ge (tgt := 223) hx hb (by omega) (by omega) dX3_listConflicts_12 (by decide) (fun c_12 => ?_) (fun c_12 => ?_)
      · exact W.vret hx hb hr (fun t9 ht9 _ => ⟨⟨Q, rfl, ⟨rfl, hc, by show c0 ≤ 60; omega⟩, (show mW G Q t9.heap by rw [ht9]; exact hW)⟩, hS.F ht9⟩) hS.2.2 dX3_listConflicts_223
      · exact absurd c_12 (by omega)
    | succ k ih =>
      intro n Q c0 H locs hW hS hc hcb h1 h2 ls hl
      refine lv_iload_n hx hb dX3_listConflicts_9 rfl (lv_at hl 2 rfl) ?_
      refine lv_bipush (v := nI 16) hx hb dX3_listConflicts_10 (by decide) ?_
      refine nv_icmp_ge (tgt := 223) hx hb (by omega) (by omega) dX3_listConflicts_12 (by decide) (fun c_12 => ?_) (fun c_12 => ?_)
      · exact absurd c_12 (by omega)
      · refine lv_aload_n hx hb dX3_listConflicts_15 rfl (lv_at hl 0 rfl) ?_
        refine lv_bipush (v := nI 42) hx hb dX3_listConflicts_16 (by decide) ?_
        refine lv_iload_n hx hb dX3_listConflicts_18 rfl (lv_at hl 2 rfl) ?_
        refine pv_i (va_runV (As := [.int (nI 42), .int (nI n)]) (rest := []) ⟨hx, hb, hml, hown, hts⟩ (k_X3_isAlive l G Q (t := 42) (by omega) (nI n)) (cwV 2 hts gX3_listConflicts_X3_isAlive rfl rfl rfl (by decide +kernel) ⟨Nat.le_of_ble_eq_true rfl, Nat.le_of_ble_eq_true rfl⟩) ⟨mP_blind, m_recv hW hK, mP_at hW hK hS⟩ rfl rfl hl.1 rfl (lv_room (Nat.le_of_ble_eq_true rfl)) dX3_listConflicts_19 ⟨Nat.le_of_ble_eq_true rfl, Nat.le_of_ble_eq_true rfl⟩) (fun r_1 hr_1 => ?_)
        rw [mAl_nI Q 42 (by omega)] at hr_1
        subst hr_1
        refine bv_if_eq (b := ti (Q.1 4 42) n) (tgt := 217) hx hb dX3_listConflicts_22 (by decide) (fun c_22 => ?_) (fun c_22 => ?_)
        · refine lv_iinc (v := nI (n + 1)) (lv' := [(2, .int (nI (n + 1))), (0, .ref (gA G 0)), (1, .int (nI i))]) hx hb dX3_listConflicts_217 hl (k := 2) rfl (nI_add n 1) (by decide) rfl (fun ls hl => ?_)
          refine lv_goto (tgt := 9) hx hb dX3_listConflicts_220 (by decide) ?_
          have E : mlcG i (k + 1) n (Q, c0) = mlcG i k (n + 1) (Q, c0) := by rw [mlcG, mlcI, if_neg (ne_true_of_eq_false c_22)]
          rw [E]
          exact ih (n + 1) Q c0 H locs hW hS hc (by omega) (by omega) (by omega) ls (lv_sub hl [1, 2, 0] rfl)
        · refine lv_iconst (v := nI 0) hx hb dX3_listConflicts_25 (by decide) ?_
          refine lv_istore_n (lv' := [(3, .int (nI 0)), (0, .ref (gA G 0)), (1, .int (nI i)), (2, .int (nI n))]) hx hb dX3_listConflicts_26 rfl hl (by decide) rfl (fun ls hl => ?_)
          have LQ : ∀ (k2 : Nat) (w : Nat) (Q2 : SS) (c2 : Nat) (H : Heap) (locs : List Loc), (mW G Q2 H) → (va_S (gF G s.heap.size) s.heap H locs) → (Q2.1 16 i = nI c2) → (c2 + 4 ≤ 4 * n + w) → (w + k2 = 3) → ∀ (ls : Array Slot), lv_has ls 5 [(0, .ref (gA G 0)), (1, .int (nI i)), (2, .int (nI n)), (3, .int (nI w))] → W p l e (headSpec wsX3_listConflicts ({ frames := 3, cells := 0, slots := 0, locals := 67 } : Room)).room s m ([.ref (gA G 0), .int (nI i)] : List Value).toArray below meth c H locs 0 0 (MQ below (va_Qv (fun S' => S' = (mlcG i k (n + 1) (mlcF i n (mlcW i n k2 w (Q2, c2)))).1 ∧ S'.1 16 i = nI (mlcG i k (n + 1) (mlcF i n (mlcW i n k2 w (Q2, c2)))).2 ∧ (mlcG i k (n + 1) (mlcF i n (mlcW i n k2 w (Q2, c2)))).2 ≤ 60) (mB G) (gF G s.heap.size)) ([.ref (gA G 0), .int (nI i)] : List Value).toArray s 0 0 (gF G s.heap.size)) (F0 m 27 ls []) := by
            intro k2
            induction k2 with
            | zero =>
              intro w Q2 c2 H locs hW hS hc2 hcb2 h3 ls hl
              refine lv_iload_n hx hb dX3_listConflicts_27 rfl (lv_at hl 3 rfl) ?_
              refine lv_iconst (v := nI 3) hx hb dX3_listConflicts_28 (by decide) ?_
              refine nv_icmp_ge (tgt := 59) hx hb (by omega) (by omega) dX3_listConflicts_29 (by decide) (fun c_29 => ?_) (fun c_29 => ?_)
              · refine lv_iconst (v := nI 0) hx hb dX3_listConflicts_59 (by decide) ?_
                refine lv_istore_n (lv' := [(3, .int (nI 0)), (0, .ref (gA G 0)), (1, .int (nI i)), (2, .int (nI n))]) hx hb dX3_listConflicts_60 rfl hl (by decide) rfl (fun ls hl => ?_)
                refine lv_iconst (v := nI 1) hx hb dX3_listConflicts_61 (by decide) ?_
                refine lv_istore (lv' := [(4, .int (nI 1)), (3, .int (nI 0)), (0, .ref (gA G 0)), (1, .int (nI i)), (2, .int (nI n))]) hx hb dX3_listConflicts_62 hl (by decide) rfl (fun ls hl => ?_)
                have LT : ∀ (k3 : Nat) (x : Nat) (mm : Nat), (1 ≤ mm) → (x < n) → (twG Q2 n k3 mm x = twG Q2 n (n - 1) 1 0) → (mm + k3 = n) → ∀ (ls : Array Slot), lv_has ls 5 [(0, .ref (gA G 0)), (1, .int (nI i)), (2, .int (nI n)), (3, .int (nI x)), (4, .int (nI mm))] → W p l e (headSpec wsX3_listConflicts ({ frames := 3, cells := 0, slots := 0, locals := 67 } : Room)).room s m ([.ref (gA G 0), .int (nI i)] : List Value).toArray below meth c H locs 0 0 (MQ below (va_Qv (fun S' => S' = (mlcG i k (n + 1) (mlcF i n (Q2, c2))).1 ∧ S'.1 16 i = nI (mlcG i k (n + 1) (mlcF i n (Q2, c2))).2 ∧ (mlcG i k (n + 1) (mlcF i n (Q2, c2))).2 ≤ 60) (mB G) (gF G s.heap.size)) ([.ref (gA G 0), .int (nI i)] : List Value).toArray s 0 0 (gF G s.heap.size)) (F0 m 64 ls []) := by
                  intro k3
                  induction k3 with
                  | zero =>
                    intro x mm h1m hxn htw h4 ls hl
                    refine lv_iload hx hb dX3_listConflicts_64 (lv_at hl 4 rfl) ?_
                    refine lv_iload_n hx hb dX3_listConflicts_66 rfl (lv_at hl 2 rfl) ?_
                    refine nv_icmp_ge (tgt := 151) hx hb (by omega) (by omega) dX3_listConflicts_67 (by decide) (fun c_67 => ?_) (fun c_67 => ?_)
                    · refine lv_aload_n hx hb dX3_listConflicts_151 rfl (lv_at hl 0 rfl) ?_
                      refine lv_iload_n hx hb dX3_listConflicts_152 rfl (lv_at hl 2 rfl) ?_
                      refine pv_i (va_runV (As := [.int (nI n)]) (rest := []) ⟨hx, hb, hml, hown, hts⟩ (k_X3_placed l G Q2 (n := n) (by omega)) (cwV 1 hts gX3_listConflicts_X3_placed rfl rfl rfl (by decide +kernel) ⟨Nat.le_of_ble_eq_true rfl, Nat.le_of_ble_eq_true rfl⟩) ⟨mP_blind, m_recv hW hK, mP_at hW hK hS⟩ rfl rfl hl.1 rfl (lv_room (Nat.le_of_ble_eq_true rfl)) dX3_listConflicts_153 ⟨Nat.le_of_ble_eq_true rfl, Nat.le_of_ble_eq_true rfl⟩) (fun r_2 hr_2 => ?_)
                      have hr_2 : r_2 = bI (!ti (Q2.1 19 n) 0) := hr_2
                      subst hr_2
                      refine bv_if_eq (b := !ti (Q2.1 19 n) 0) (tgt := 217) hx hb dX3_listConflicts_156 (by decide) (fun c_156 => ?_) (fun c_156 => ?_)
                      · refine lv_iinc (v := nI (n + 1)) (lv' := [(2, .int (nI (n + 1))), (0, .ref (gA G 0)), (1, .int (nI i)), (3, .int (nI x)), (4, .int (nI mm))]) hx hb dX3_listConflicts_217 hl (k := 2) rfl (nI_add n 1) (by decide) rfl (fun ls hl => ?_)
                        refine lv_goto (tgt := 9) hx hb dX3_listConflicts_220 (by decide) ?_
                        have htw : twG Q2 n (n - 1) 1 0 = x := htw.symm
                        have E : mlcF i n (Q2, c2) = (Q2, c2) := by rw [mlcF, if_pos (by cases h9 : ti (Q2.1 19 n) 0; rw [h9] at c_156; cases c_156; rfl)]
                        rw [E]
                        exact ih (n + 1) Q2 c2 H locs hW hS hc2 (by omega) (by omega) (by omega) ls (lv_sub hl [1, 2, 0] rfl)
                      · refine lv_aload_n hx hb dX3_listConflicts_159 rfl (lv_at hl 0 rfl) ?_
                        refine lv_bipush (v := nI 42) hx hb dX3_listConflicts_160 (by decide) ?_
                        refine lv_aload_n hx hb dX3_listConflicts_162 rfl (lv_at hl 0 rfl) ?_
                        refine va_get (D := gD G) (ci := 3) (v := .ref (gA G 5)) (C := RX3) (T := TX3) (N := 22) hx hb hts inX3 hown hK.1 hW 0 mw_0 rfl 7 (by decide) (hts (.fieldLink RX3 31 "MarkedTreesModel" "parent" "[I") (by decide +kernel)) (fun _ h9 => h9) rfl dX3_listConflicts_163 ?_
                        refine lv_sipush (v := nI 672) hx hb dX3_listConflicts_166 (by decide) ?_
                        refine lv_iload_n hx hb dX3_listConflicts_169 rfl (lv_at hl 2 rfl) ?_
                        refine nv_iadd hx hb dX3_listConflicts_170 ?_
                        refine nv_iald hx hb hK.1 hW 5 0 mw_5 rfl (i := 672 + n) (by omega) (by decide) dX3_listConflicts_171 ?_
                        refine pv_i (va_runV (As := [.int (nI 42), .int (Q2.1 5 (672 + n))]) (rest := []) ⟨hx, hb, hml, hown, hts⟩ (k_X3_isAlive l G Q2 (t := 42) (by omega) (Q2.1 5 (672 + n))) (cwV 2 hts gX3_listConflicts_X3_isAlive rfl rfl rfl (by decide +kernel) ⟨Nat.le_of_ble_eq_true rfl, Nat.le_of_ble_eq_true rfl⟩) ⟨mP_blind, m_recv hW hK, mP_at hW hK hS⟩ rfl rfl hl.1 rfl (lv_room (Nat.le_of_ble_eq_true rfl)) dX3_listConflicts_172 ⟨Nat.le_of_ble_eq_true rfl, Nat.le_of_ble_eq_true rfl⟩) (fun r_3 hr_3 => ?_)
                        subst hr_3
                        refine bv_if_ne (b := mAl Q2 42 (Q2.1 5 (672 + n))) (tgt := 188) hx hb dX3_listConflicts_175 (by decide) (fun c_175 => ?_) (fun c_175 => ?_)
                        · refine lv_iload_n hx hb dX3_listConflicts_188 rfl (lv_at hl 3 rfl) ?_
                          refine lv_if_le (tgt := 202) hx hb dX3_listConflicts_189 (by decide) (fun c_189 => ?_) (fun c_189 => ?_)
                          · refine lv_aload_n hx hb dX3_listConflicts_202 rfl (lv_at hl 0 rfl) ?_
                            refine lv_iload_n hx hb dX3_listConflicts_203 rfl (lv_at hl 2 rfl) ?_
                            refine pv_i (va_runV (As := [.int (nI n)]) (rest := []) ⟨hx, hb, hml, hown, hts⟩ (k_X3_comesBack l G Q2 (n := n) (by omega)) (cwV 1 hts gX3_listConflicts_X3_comesBack rfl rfl rfl (by decide +kernel) ⟨Nat.le_of_ble_eq_true rfl, Nat.le_of_ble_eq_true rfl⟩) ⟨mP_blind, m_recv hW hK, mP_at hW hK hS⟩ rfl rfl hl.1 rfl (lv_room (Nat.le_of_ble_eq_true rfl)) dX3_listConflicts_204 ⟨Nat.le_of_ble_eq_true rfl, Nat.le_of_ble_eq_true rfl⟩) (fun r_4 hr_4 => ?_)
                            have hr_4 : r_4 = bI (cbG Q2 n 17 (Q2.1 5 (672 + n))) := hr_4
                            subst hr_4
                            refine bv_if_eq (b := cbG Q2 n 17 (Q2.1 5 (672 + n))) (tgt := 217) hx hb dX3_listConflicts_207 (by decide) (fun c_207 => ?_) (fun c_207 => ?_)
                            · refine lv_iinc (v := nI (n + 1)) (lv' := [(2, .int (nI (n + 1))), (0, .ref (gA G 0)), (1, .int (nI i)), (3, .int (nI x)), (4, .int (nI mm))]) hx hb dX3_listConflicts_217 hl (k := 2) rfl (nI_add n 1) (by decide) rfl (fun ls hl => ?_)
                              refine lv_goto (tgt := 9) hx hb dX3_listConflicts_220 (by decide) ?_
                              have htw : twG Q2 n (n - 1) 1 0 = x := htw.symm
                              have hpl : ti (Q2.1 19 n) 0 = false := by cases h9 : ti (Q2.1 19 n) 0; rfl; rw [h9] at c_156; cases c_156
                              have hk9 : mpcK Q2 n = 0 := by rw [mpcK, if_neg (by rw [c_175]; decide), htw, if_neg (by have := (nI_le0 (by omega)).mp c_189; omega), if_neg (by rw [c_207]; decide)]
                              have e9 : Q2 = mpcS Q2 i c2 n := by rw [mpcS, hk9, if_pos rfl]
                              have E : mlcF i n (Q2, c2) = (Q2, c2 + (if mpcK Q2 n = 0 then 0 else 1)) := by rw [mlcF, if_neg (ne_true_of_eq_false hpl)]; show (mpcS Q2 i c2 n, _) = _; rw [← e9]
                              have hc9 := mpcS_c (n := n) hc2
                              rw [← e9] at hc9
                              rw [E]
                              have hle : (if mpcK Q2 n = 0 then 0 else 1) ≤ 1 := by split <;> omega
                              exact ih (n + 1) Q2 _ H locs hW hS hc9 (by omega) (by omega) (by omega) ls (lv_sub hl [1, 2, 0] rfl)
                            · refine lv_aload_n hx hb dX3_listConflicts_210 rfl (lv_at hl 0 rfl) ?_
                              refine lv_iload_n hx hb dX3_listConflicts_211 rfl (lv_at hl 1 rfl) ?_
                              refine lv_iload_n hx hb dX3_listConflicts_212 rfl (lv_at hl 2 rfl) ?_
                              refine lv_iconst (v := nI 5) hx hb dX3_listConflicts_213 (by decide) ?_
                              refine ev_v (va_runV (As := [.int (nI i), .int (nI n), .int (nI 5)]) (rest := []) ⟨hx, hb, hml, hown, hts⟩ (k_X3_list l G Q2 H.size (i := i) (by omega) (c0 := c2) hc2 (by omega) (nI n) (nI 5)) (cwV 3 hts gX3_listConflicts_X3_list rfl rfl rfl (by decide +kernel) ⟨Nat.le_of_ble_eq_true rfl, Nat.le_of_ble_eq_true rfl⟩) ⟨mQ_blind, m_recv hW hK, mQ_at hW hK hS⟩ rfl rfl hl.1 rfl (lv_room (Nat.le_of_ble_eq_true rfl)) dX3_listConflicts_214 ⟨Nat.le_of_ble_eq_true rfl, Nat.le_of_ble_eq_true rfl⟩) hS (fun S_5 t9 H locs ht9 hS_5 hW hS => ?_)
                              have hW : mW G S_5 H := ht9 ▸ hW
                              refine lv_iinc (v := nI (n + 1)) (lv' := [(2, .int (nI (n + 1))), (0, .ref (gA G 0)), (1, .int (nI i)), (3, .int (nI x)), (4, .int (nI mm))]) hx hb dX3_listConflicts_217 hl (k := 2) rfl (nI_add n 1) (by decide) rfl (fun ls hl => ?_)
                              refine lv_goto (tgt := 9) hx hb dX3_listConflicts_220 (by decide) ?_
                              have htw : twG Q2 n (n - 1) 1 0 = x := htw.symm
                              have hpl : ti (Q2.1 19 n) 0 = false := by cases h9 : ti (Q2.1 19 n) 0; rfl; rw [h9] at c_156; cases c_156
                              have hk9 : mpcK Q2 n = 5 := by rw [mpcK, if_neg (by rw [c_175]; decide), htw, if_neg (by have := (nI_le0 (by omega)).mp c_189; omega), if_pos c_207]
                              have e9 : S_5 = mpcS Q2 i c2 n := by rw [mpcS, hk9, if_neg (by decide)]; exact hS_5
                              have E : mlcF i n (Q2, c2) = (S_5, c2 + (if mpcK Q2 n = 0 then 0 else 1)) := by rw [mlcF, if_neg (ne_true_of_eq_false hpl)]; show (mpcS Q2 i c2 n, _) = _; rw [← e9]
                              have hc9 := mpcS_c (n := n) hc2
                              rw [← e9] at hc9
                              rw [E]
                              have hle : (if mpcK Q2 n = 0 then 0 else 1) ≤ 1 := by split <;> omega
                              exact ih (n + 1) S_5 _ H locs hW hS hc9 (by omega) (by omega) (by omega) ls (lv_sub hl [1, 2, 0] rfl)
                          · refine lv_aload_n hx hb dX3_listConflicts_192 rfl (lv_at hl 0 rfl) ?_
                            refine lv_iload_n hx hb dX3_listConflicts_193 rfl (lv_at hl 1 rfl) ?_
                            refine lv_iload_n hx hb dX3_listConflicts_194 rfl (lv_at hl 2 rfl) ?_
                            refine lv_iconst (v := nI 4) hx hb dX3_listConflicts_195 (by decide) ?_
                            refine ev_v (va_runV (As := [.int (nI i), .int (nI n), .int (nI 4)]) (rest := []) ⟨hx, hb, hml, hown, hts⟩ (k_X3_list l G Q2 H.size (i := i) (by omega) (c0 := c2) hc2 (by omega) (nI n) (nI 4)) (cwV 3 hts gX3_listConflicts_X3_list rfl rfl rfl (by decide +kernel) ⟨Nat.le_of_ble_eq_true rfl, Nat.le_of_ble_eq_true rfl⟩) ⟨mQ_blind, m_recv hW hK, mQ_at hW hK hS⟩ rfl rfl hl.1 rfl (lv_room (Nat.le_of_ble_eq_true rfl)) dX3_listConflicts_196 ⟨Nat.le_of_ble_eq_true rfl, Nat.le_of_ble_eq_true rfl⟩) hS (fun S_6 t9 H locs ht9 hS_6 hW hS => ?_)
                            have hW : mW G S_6 H := ht9 ▸ hW
                            refine lv_goto (tgt := 217) hx hb dX3_listConflicts_199 (by decide) ?_
                            refine lv_iinc (v := nI (n + 1)) (lv' := [(2, .int (nI (n + 1))), (0, .ref (gA G 0)), (1, .int (nI i)), (3, .int (nI x)), (4, .int (nI mm))]) hx hb dX3_listConflicts_217 hl (k := 2) rfl (nI_add n 1) (by decide) rfl (fun ls hl => ?_)
                            refine lv_goto (tgt := 9) hx hb dX3_listConflicts_220 (by decide) ?_
                            have htw : twG Q2 n (n - 1) 1 0 = x := htw.symm
                            have hpl : ti (Q2.1 19 n) 0 = false := by cases h9 : ti (Q2.1 19 n) 0; rfl; rw [h9] at c_156; cases c_156
                            have hk9 : mpcK Q2 n = 4 := by rw [mpcK, if_neg (by rw [c_175]; decide), htw, if_pos (Nat.pos_of_ne_zero (fun z => c_189 ((nI_le0 (by omega)).mpr z)))]
                            have e9 : S_6 = mpcS Q2 i c2 n := by rw [mpcS, hk9, if_neg (by decide)]; exact hS_6
                            have E : mlcF i n (Q2, c2) = (S_6, c2 + (if mpcK Q2 n = 0 then 0 else 1)) := by rw [mlcF, if_neg (ne_true_of_eq_false hpl)]; show (mpcS Q2 i c2 n, _) = _; rw [← e9]
                            have hc9 := mpcS_c (n := n) hc2
                            rw [← e9] at hc9
                            rw [E]
                            have hle : (if mpcK Q2 n = 0 then 0 else 1) ≤ 1 := by split <;> omega
                            exact ih (n + 1) S_6 _ H locs hW hS hc9 (by omega) (by omega) (by omega) ls (lv_sub hl [1, 2, 0] rfl)
                        · refine lv_aload_n hx hb dX3_listConflicts_178 rfl (lv_at hl 0 rfl) ?_
                          refine lv_iload_n hx hb dX3_listConflicts_179 rfl (lv_at hl 1 rfl) ?_
                          refine lv_iload_n hx hb dX3_listConflicts_180 rfl (lv_at hl 2 rfl) ?_
                          refine lv_iconst (v := nI 3) hx hb dX3_listConflicts_181 (by decide) ?_
                          refine ev_v (va_runV (As := [.int (nI i), .int (nI n), .int (nI 3)]) (rest := []) ⟨hx, hb, hml, hown, hts⟩ (k_X3_list l G Q2 H.size (i := i) (by omega) (c0 := c2) hc2 (by omega) (nI n) (nI 3)) (cwV 3 hts gX3_listConflicts_X3_list rfl rfl rfl (by decide +kernel) ⟨Nat.le_of_ble_eq_true rfl, Nat.le_of_ble_eq_true rfl⟩) ⟨mQ_blind, m_recv hW hK, mQ_at hW hK hS⟩ rfl rfl hl.1 rfl (lv_room (Nat.le_of_ble_eq_true rfl)) dX3_listConflicts_182 ⟨Nat.le_of_ble_eq_true rfl, Nat.le_of_ble_eq_true rfl⟩) hS (fun S_7 t9 H locs ht9 hS_7 hW hS => ?_)
                          have hW : mW G S_7 H := ht9 ▸ hW
                          refine lv_goto (tgt := 217) hx hb dX3_listConflicts_185 (by decide) ?_
                          refine lv_iinc (v := nI (n + 1)) (lv' := [(2, .int (nI (n + 1))), (0, .ref (gA G 0)), (1, .int (nI i)), (3, .int (nI x)), (4, .int (nI mm))]) hx hb dX3_listConflicts_217 hl (k := 2) rfl (nI_add n 1) (by decide) rfl (fun ls hl => ?_)
                          refine lv_goto (tgt := 9) hx hb dX3_listConflicts_220 (by decide) ?_
                          have htw : twG Q2 n (n - 1) 1 0 = x := htw.symm
                          have hpl : ti (Q2.1 19 n) 0 = false := by cases h9 : ti (Q2.1 19 n) 0; rfl; rw [h9] at c_156; cases c_156
                          have hk9 : mpcK Q2 n = 3 := by rw [mpcK, if_pos c_175]
                          have e9 : S_7 = mpcS Q2 i c2 n := by rw [mpcS, hk9, if_neg (by decide)]; exact hS_7
                          have E : mlcF i n (Q2, c2) = (S_7, c2 + (if mpcK Q2 n = 0 then 0 else 1)) := by rw [mlcF, if_neg (ne_true_of_eq_false hpl)]; show (mpcS Q2 i c2 n, _) = _; rw [← e9]
                          have hc9 := mpcS_c (n := n) hc2
                          rw [← e9] at hc9
                          rw [E]
                          have hle : (if mpcK Q2 n = 0 then 0 else 1) ≤ 1 := by split <;> omega
                          exact ih (n + 1) S_7 _ H locs hW hS hc9 (by omega) (by omega) (by omega) ls (lv_sub hl [1, 2, 0] rfl)
                    · exact absurd c_67 (by omega)
                  | succ k3 ih3 =>
                    intro x mm h1m hxn htw h4 ls hl
                    refine lv_iload hx hb dX3_listConflicts_64 (lv_at hl 4 rfl) ?_
                    refine lv_iload_n hx hb dX3_listConflicts_66 rfl (lv_at hl 2 rfl) ?_
                    refine nv_icmp_ge (tgt := 151) hx hb (by omega) (by omega) dX3_listConflicts_67 (by decide) (fun c_67 => ?_) (fun c_67 => ?_)
                    · exact absurd c_67 (by omega)
                    · refine lv_aload_n hx hb dX3_listConflicts_70 rfl (lv_at hl 0 rfl) ?_
                      refine lv_bipush (v := nI 42) hx hb dX3_listConflicts_71 (by decide) ?_
                      refine lv_iload hx hb dX3_listConflicts_73 (lv_at hl 4 rfl) ?_
                      refine pv_i (va_runV (As := [.int (nI 42), .int (nI mm)]) (rest := []) ⟨hx, hb, hml, hown, hts⟩ (k_X3_isAlive l G Q2 (t := 42) (by omega) (nI mm)) (cwV 2 hts gX3_listConflicts_X3_isAlive rfl rfl rfl (by decide +kernel) ⟨Nat.le_of_ble_eq_true rfl, Nat.le_of_ble_eq_true rfl⟩) ⟨mP_blind, m_recv hW hK, mP_at hW hK hS⟩ rfl rfl hl.1 rfl (lv_room (Nat.le_of_ble_eq_true rfl)) dX3_listConflicts_75 ⟨Nat.le_of_ble_eq_true rfl, Nat.le_of_ble_eq_true rfl⟩) (fun r_8 hr_8 => ?_)
                      rw [mAl_nI Q2 42 (by omega)] at hr_8
                      subst hr_8
                      refine bv_if_eq (b := ti (Q2.1 4 42) mm) (tgt := 143) hx hb dX3_listConflicts_78 (by decide) (fun c_78 => ?_) (fun c_78 => ?_)
                      · refine lv_iload_n hx hb dX3_listConflicts_143 rfl (lv_at hl 3 rfl) ?_
                        refine lv_istore_n (lv' := [(3, .int (nI x)), (0, .ref (gA G 0)), (1, .int (nI i)), (2, .int (nI n)), (4, .int (nI mm))]) hx hb dX3_listConflicts_144 rfl hl (by decide) rfl (fun ls hl => ?_)
                        refine lv_iinc (v := nI (mm + 1)) (lv' := [(4, .int (nI (mm + 1))), (3, .int (nI x)), (0, .ref (gA G 0)), (1, .int (nI i)), (2, .int (nI n))]) hx hb dX3_listConflicts_145 hl (k := 4) rfl (nI_add mm 1) (by decide) rfl (fun ls hl => ?_)
                        refine lv_goto (tgt := 64) hx hb dX3_listConflicts_148 (by decide) ?_
                        have E : twG Q2 n (k3 + 1) mm x = twG Q2 n k3 (mm + 1) x := by rw [twG, if_neg (by simp_all [twC])]
                        exact ih3 x (mm + 1) (by omega) (by omega) (E ▸ htw) (by omega) ls (lv_sub hl [2, 3, 4, 1, 0] rfl)
                      · refine lv_aload_n hx hb dX3_listConflicts_81 rfl (lv_at hl 0 rfl) ?_
                        refine lv_iload hx hb dX3_listConflicts_82 (lv_at hl 4 rfl) ?_
                        refine pv_i (va_runV (As := [.int (nI mm)]) (rest := []) ⟨hx, hb, hml, hown, hts⟩ (k_X3_placed l G Q2 (n := mm) (by omega)) (cwV 1 hts gX3_listConflicts_X3_placed rfl rfl rfl (by decide +kernel) ⟨Nat.le_of_ble_eq_true rfl, Nat.le_of_ble_eq_true rfl⟩) ⟨mP_blind, m_recv hW hK, mP_at hW hK hS⟩ rfl rfl hl.1 rfl (lv_room (Nat.le_of_ble_eq_true rfl)) dX3_listConflicts_84 ⟨Nat.le_of_ble_eq_true rfl, Nat.le_of_ble_eq_true rfl⟩) (fun r_9 hr_9 => ?_)
                        have hr_9 : r_9 = bI (!ti (Q2.1 19 mm) 0) := hr_9
                        subst hr_9
                        refine bv_if_eq (b := !ti (Q2.1 19 mm) 0) (tgt := 143) hx hb dX3_listConflicts_87 (by decide) (fun c_87 => ?_) (fun c_87 => ?_)
                        · refine lv_iload_n hx hb dX3_listConflicts_143 rfl (lv_at hl 3 rfl) ?_
                          refine lv_istore_n (lv' := [(3, .int (nI x)), (0, .ref (gA G 0)), (1, .int (nI i)), (2, .int (nI n)), (4, .int (nI mm))]) hx hb dX3_listConflicts_144 rfl hl (by decide) rfl (fun ls hl => ?_)
                          refine lv_iinc (v := nI (mm + 1)) (lv' := [(4, .int (nI (mm + 1))), (3, .int (nI x)), (0, .ref (gA G 0)), (1, .int (nI i)), (2, .int (nI n))]) hx hb dX3_listConflicts_145 hl (k := 4) rfl (nI_add mm 1) (by decide) rfl (fun ls hl => ?_)
                          refine lv_goto (tgt := 64) hx hb dX3_listConflicts_148 (by decide) ?_
                          have E : twG Q2 n (k3 + 1) mm x = twG Q2 n k3 (mm + 1) x := by rw [twG, if_neg (by simp_all [twC])]
                          exact ih3 x (mm + 1) (by omega) (by omega) (E ▸ htw) (by omega) ls (lv_sub hl [2, 3, 4, 1, 0] rfl)
                        · refine lv_aload_n hx hb dX3_listConflicts_90 rfl (lv_at hl 0 rfl) ?_
                          refine va_get (D := gD G) (ci := 3) (v := .ref (gA G 5)) (C := RX3) (T := TX3) (N := 22) hx hb hts inX3 hown hK.1 hW 0 mw_0 rfl 7 (by decide) (hts (.fieldLink RX3 31 "MarkedTreesModel" "parent" "[I") (by decide +kernel)) (fun _ h9 => h9) rfl dX3_listConflicts_91 ?_
                          refine lv_sipush (v := nI 672) hx hb dX3_listConflicts_94 (by decide) ?_
                          refine lv_iload hx hb dX3_listConflicts_97 (lv_at hl 4 rfl) ?_
                          refine nv_iadd hx hb dX3_listConflicts_99 ?_
                          refine nv_iald hx hb hK.1 hW 5 0 mw_5 rfl (i := 672 + mm) (by omega) (by decide) dX3_listConflicts_100 ?_
                          refine lv_aload_n hx hb dX3_listConflicts_101 rfl (lv_at hl 0 rfl) ?_
                          refine va_get (D := gD G) (ci := 3) (v := .ref (gA G 5)) (C := RX3) (T := TX3) (N := 22) hx hb hts inX3 hown hK.1 hW 0 mw_0 rfl 7 (by decide) (hts (.fieldLink RX3 31 "MarkedTreesModel" "parent" "[I") (by decide +kernel)) (fun _ h9 => h9) rfl dX3_listConflicts_102 ?_
                          refine lv_sipush (v := nI 672) hx hb dX3_listConflicts_105 (by decide) ?_
                          refine lv_iload_n hx hb dX3_listConflicts_108 rfl (lv_at hl 2 rfl) ?_
                          refine nv_iadd hx hb dX3_listConflicts_109 ?_
                          refine nv_iald hx hb hK.1 hW 5 0 mw_5 rfl (i := 672 + n) (by omega) (by decide) dX3_listConflicts_110 ?_
                          refine lv_icmp_ne (tgt := 143) hx hb dX3_listConflicts_111 (by decide) (fun c_111 => ?_) (fun c_111 => ?_)
                          · refine lv_iload_n hx hb dX3_listConflicts_143 rfl (lv_at hl 3 rfl) ?_
                            refine lv_istore_n (lv' := [(3, .int (nI x)), (0, .ref (gA G 0)), (1, .int (nI i)), (2, .int (nI n)), (4, .int (nI mm))]) hx hb dX3_listConflicts_144 rfl hl (by decide) rfl (fun ls hl => ?_)
                            refine lv_iinc (v := nI (mm + 1)) (lv' := [(4, .int (nI (mm + 1))), (3, .int (nI x)), (0, .ref (gA G 0)), (1, .int (nI i)), (2, .int (nI n))]) hx hb dX3_listConflicts_145 hl (k := 4) rfl (nI_add mm 1) (by decide) rfl (fun ls hl => ?_)
                            refine lv_goto (tgt := 64) hx hb dX3_listConflicts_148 (by decide) ?_
                            have E : twG Q2 n (k3 + 1) mm x = twG Q2 n k3 (mm + 1) x := by rw [twG, if_neg (by simp_all [twC])]
                            exact ih3 x (mm + 1) (by omega) (by omega) (E ▸ htw) (by omega) ls (lv_sub hl [2, 3, 4, 1, 0] rfl)
                          · refine lv_aload_n hx hb dX3_listConflicts_114 rfl (lv_at hl 0 rfl) ?_
                            refine va_get (D := gD G) (ci := 3) (v := .ref (gA G 6)) (C := RX3) (T := TX3) (N := 22) hx hb hts inX3 hown hK.1 hW 0 mw_0 rfl 8 (by decide) (hts (.fieldLink RX3 34 "MarkedTreesModel" "name" "[I") (by decide +kernel)) (fun _ h9 => h9) rfl dX3_listConflicts_115 ?_
                            refine lv_sipush (v := nI 672) hx hb dX3_listConflicts_118 (by decide) ?_
                            refine lv_iload hx hb dX3_listConflicts_121 (lv_at hl 4 rfl) ?_
                            refine nv_iadd hx hb dX3_listConflicts_123 ?_
                            refine nv_iald hx hb hK.1 hW 6 0 mw_6 rfl (i := 672 + mm) (by omega) (by decide) dX3_listConflicts_124 ?_
                            refine lv_aload_n hx hb dX3_listConflicts_125 rfl (lv_at hl 0 rfl) ?_
                            refine va_get (D := gD G) (ci := 3) (v := .ref (gA G 6)) (C := RX3) (T := TX3) (N := 22) hx hb hts inX3 hown hK.1 hW 0 mw_0 rfl 8 (by decide) (hts (.fieldLink RX3 34 "MarkedTreesModel" "name" "[I") (by decide +kernel)) (fun _ h9 => h9) rfl dX3_listConflicts_126 ?_
                            refine lv_sipush (v := nI 672) hx hb dX3_listConflicts_129 (by decide) ?_
                            refine lv_iload_n hx hb dX3_listConflicts_132 rfl (lv_at hl 2 rfl) ?_
                            refine nv_iadd hx hb dX3_listConflicts_133 ?_
                            refine nv_iald hx hb hK.1 hW 6 0 mw_6 rfl (i := 672 + n) (by omega) (by decide) dX3_listConflicts_134 ?_
                            refine lv_icmp_ne (tgt := 143) hx hb dX3_listConflicts_135 (by decide) (fun c_135 => ?_) (fun c_135 => ?_)
                            · refine lv_iload_n hx hb dX3_listConflicts_143 rfl (lv_at hl 3 rfl) ?_
                              refine lv_istore_n (lv' := [(3, .int (nI x)), (0, .ref (gA G 0)), (1, .int (nI i)), (2, .int (nI n)), (4, .int (nI mm))]) hx hb dX3_listConflicts_144 rfl hl (by decide) rfl (fun ls hl => ?_)
                              refine lv_iinc (v := nI (mm + 1)) (lv' := [(4, .int (nI (mm + 1))), (3, .int (nI x)), (0, .ref (gA G 0)), (1, .int (nI i)), (2, .int (nI n))]) hx hb dX3_listConflicts_145 hl (k := 4) rfl (nI_add mm 1) (by decide) rfl (fun ls hl => ?_)
                              refine lv_goto (tgt := 64) hx hb dX3_listConflicts_148 (by decide) ?_
                              have E : twG Q2 n (k3 + 1) mm x = twG Q2 n k3 (mm + 1) x := by rw [twG, if_neg (by simp_all [twC])]
                              exact ih3 x (mm + 1) (by omega) (by omega) (E ▸ htw) (by omega) ls (lv_sub hl [2, 3, 4, 1, 0] rfl)
                            · refine lv_iload hx hb dX3_listConflicts_138 (lv_at hl 4 rfl) ?_
                              refine lv_goto (tgt := 144) hx hb dX3_listConflicts_140 (by decide) ?_
                              refine lv_istore_n (lv' := [(3, .int (nI mm)), (0, .ref (gA G 0)), (1, .int (nI i)), (2, .int (nI n)), (4, .int (nI mm))]) hx hb dX3_listConflicts_144 rfl hl (by decide) rfl (fun ls hl => ?_)
                              refine lv_iinc (v := nI (mm + 1)) (lv' := [(4, .int (nI (mm + 1))), (3, .int (nI mm)), (0, .ref (gA G 0)), (1, .int (nI i)), (2, .int (nI n))]) hx hb dX3_listConflicts_145 hl (k := 4) rfl (nI_add mm 1) (by decide) rfl (fun ls hl => ?_)
                              refine lv_goto (tgt := 64) hx hb dX3_listConflicts_148 (by decide) ?_
                              have E : twG Q2 n (k3 + 1) mm x = twG Q2 n k3 (mm + 1) mm := by rw [twG, if_pos (by simp_all [twC])]
                              exact ih3 mm (mm + 1) (by omega) (by omega) (E ▸ htw) (by omega) ls (lv_sub hl [2, 3, 4, 1, 0] rfl)
                exact LT (n - 1) 0 1 (by omega) (by omega) rfl (by omega) ls (lv_sub hl [2, 3, 4, 1, 0] rfl)
              · exact absurd c_29 (by omega)
            | succ k2 ih2 =>
              intro w Q2 c2 H locs hW hS hc2 hcb2 h3 ls hl
              refine lv_iload_n hx hb dX3_listConflicts_27 rfl (lv_at hl 3 rfl) ?_
              refine lv_iconst (v := nI 3) hx hb dX3_listConflicts_28 (by decide) ?_
              refine nv_icmp_ge (tgt := 59) hx hb (by omega) (by omega) dX3_listConflicts_29 (by decide) (fun c_29 => ?_) (fun c_29 => ?_)
              · exact absurd c_29 (by omega)
              · refine lv_aload_n hx hb dX3_listConflicts_32 rfl (lv_at hl 0 rfl) ?_
                refine va_get (D := gD G) (ci := 3) (v := .ref (gA G 19)) (C := RX3) (T := TX3) (N := 22) hx hb hts inX3 hown hK.1 hW 0 mw_0 rfl 21 (by decide) (hts (.fieldLink RX3 73 "MarkedTreesModel" "open" "[I") (by decide +kernel)) (fun _ h9 => h9) rfl dX3_listConflicts_33 ?_
                refine lv_iload_n hx hb dX3_listConflicts_36 rfl (lv_at hl 2 rfl) ?_
                refine nv_iald hx hb hK.1 hW 19 0 mw_19 rfl (i := n) (by omega) (by decide) dX3_listConflicts_37 ?_
                refine lv_iload_n hx hb dX3_listConflicts_38 rfl (lv_at hl 3 rfl) ?_
                refine lv_ishr hx hb dX3_listConflicts_39 ?_
                refine lv_iconst (v := nI 1) hx hb dX3_listConflicts_40 (by decide) ?_
                refine lv_iand hx hb dX3_listConflicts_41 ?_
                refine lv_iconst (v := nI 1) hx hb dX3_listConflicts_42 (by decide) ?_
                refine lv_icmp_ne (tgt := 53) hx hb dX3_listConflicts_43 (by decide) (fun c_43 => ?_) (fun c_43 => ?_)
                · refine lv_iinc (v := nI (w + 1)) (lv' := [(3, .int (nI (w + 1))), (0, .ref (gA G 0)), (1, .int (nI i)), (2, .int (nI n))]) hx hb dX3_listConflicts_53 hl (k := 3) rfl (nI_add w 1) (by decide) rfl (fun ls hl => ?_)
                  refine lv_goto (tgt := 27) hx hb dX3_listConflicts_56 (by decide) ?_
                  have E : mlcW i n (k2 + 1) w (Q2, c2) = mlcW i n k2 (w + 1) (Q2, c2) := by rw [mlcW, if_neg (fun z => c_43 ((ti_shr _ (by omega)).mpr z))]
                  rw [E]
                  exact ih2 (w + 1) Q2 c2 H locs hW hS hc2 (by omega) (by omega) ls (lv_sub hl [1, 2, 3, 0] rfl)
                · refine lv_aload_n hx hb dX3_listConflicts_46 rfl (lv_at hl 0 rfl) ?_
                  refine lv_iload_n hx hb dX3_listConflicts_47 rfl (lv_at hl 1 rfl) ?_
                  refine lv_iload_n hx hb dX3_listConflicts_48 rfl (lv_at hl 2 rfl) ?_
                  refine lv_iload_n hx hb dX3_listConflicts_49 rfl (lv_at hl 3 rfl) ?_
                  refine ev_v (va_runV (As := [.int (nI i), .int (nI n), .int (nI w)]) (rest := []) ⟨hx, hb, hml, hown, hts⟩ (k_X3_list l G Q2 H.size (i := i) (by omega) (c0 := c2) hc2 (by omega) (nI n) (nI w)) (cwV 3 hts gX3_listConflicts_X3_list rfl rfl rfl (by decide +kernel) ⟨Nat.le_of_ble_eq_true rfl, Nat.le_of_ble_eq_true rfl⟩) ⟨mQ_blind, m_recv hW hK, mQ_at hW hK hS⟩ rfl rfl hl.1 rfl (lv_room (Nat.le_of_ble_eq_true rfl)) dX3_listConflicts_50 ⟨Nat.le_of_ble_eq_true rfl, Nat.le_of_ble_eq_true rfl⟩) hS (fun S_10 t9 H locs ht9 hS_10 hW hS => ?_)
                  have hW : mW G S_10 H := ht9 ▸ hW
                  refine lv_iinc (v := nI (w + 1)) (lv' := [(3, .int (nI (w + 1))), (0, .ref (gA G 0)), (1, .int (nI i)), (2, .int (nI n))]) hx hb dX3_listConflicts_53 hl (k := 3) rfl (nI_add w 1) (by decide) rfl (fun ls hl => ?_)
                  refine lv_goto (tgt := 27) hx hb dX3_listConflicts_56 (by decide) ?_
                  have E : mlcW i n (k2 + 1) w (Q2, c2) = mlcW i n k2 (w + 1) (S_10, c2 + 1) := by rw [mlcW, if_pos ((ti_shr _ (by omega)).mp c_43), hS_10]
                  rw [E]
                  exact ih2 (w + 1) S_10 (c2 + 1) H locs hW hS (by rw [hS_10]; exact mliS_c _ _ _ _) (by omega) (by omega) ls (lv_sub hl [1, 2, 3, 0] rfl)
          have E : mlcG i (k + 1) n (Q, c0) = mlcG i k (n + 1) (mlcF i n (mlcW i n 3 0 (Q, c0))) := by rw [mlcG, mlcI, if_pos c_22]
          rw [E]
          exact LQ 3 0 Q c0 H locs hW hS hc (by omega) (by omega) ls (lv_sub hl [1, 2, 3, 0] rfl)
  refine lv_aload_n hx hb dX3_listConflicts_0 rfl (lv_at hl 0 rfl) ?_
  refine va_get (D := gD G) (ci := 3) (v := .ref (gA G 16)) (C := RX3) (T := TX3) (N := 22) hx hb hts inX3 hown hK.1 hW 0 mw_0 rfl 18 (by decide) (hts (.fieldLink RX3 64 "MarkedTreesModel" "listed" "[I") (by decide +kernel)) (fun _ h9 => h9) rfl dX3_listConflicts_1 ?_
  refine lv_iload_n hx hb dX3_listConflicts_4 rfl (lv_at hl 1 rfl) ?_
  refine lv_iconst (v := nI 0) hx hb dX3_listConflicts_5 (by decide) ?_
  refine nv_iast hx hb hK.1 hW (wl_D hK.2.1) hS 16 0 mw_16 rfl (i := i) (by omega) (by decide) dX3_listConflicts_6 (fun H locs hW hS => ?_)
  have hW : mW G (s1 S 16 i (nI 0)) H := mp_16 hW
  obtain ⟨S_11, eS_11⟩ : ∃ z, z = s1 S 16 i (nI 0) := ⟨_, rfl⟩
  rw [← eS_11] at hW
  refine lv_iconst (v := nI 1) hx hb dX3_listConflicts_7 (by decide) ?_
  refine lv_istore_n (lv' := [(2, .int (nI 1)), (0, .ref (gA G 0)), (1, .int (nI i))]) hx hb dX3_listConflicts_8 rfl hl (by decide) rfl (fun ls hl => ?_)
  rw [← eS_11]
  exact LP 15 1 S_11 0 H locs hW hS (by rw [eS_11, s1_eq]; exact pk_us) (by omega) (by omega) (by omega) ls (lv_sub hl [1, 2, 0] rfl)
