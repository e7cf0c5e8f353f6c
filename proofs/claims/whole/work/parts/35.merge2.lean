set_option maxHeartbeats 4000000 in
set_option maxRecDepth 100000 in
theorem k_X2_mergeTrees (l : Launch) (G : GT) (S : SS) (sz : Nat) {rc : Nat} (hrc : S.1 139 4 = nI rc) (h40 : rc ≤ 40) {nc : Nat} (hnc : S.1 139 7 = nI nc) (h16 : nc ≤ 16) (h1n : 1 ≤ nc) {bi : Nat → Nat} (hbi : ∀ n, n < 16 → bi n < 40 ∧ S.1 142 n = nI (bi n)) {i : Nat} (hi : i < 2) {a b : Nat} (ha : a < 40) (hb4 : b < 40) : Met l yX2_mergeTrees wsX2_mergeTrees ({ frames := 4, cells := 0, slots := 0, locals := 106 } : Room) (va_Pc [.ref (gA G 139), .ref (gA G (129 + 5 * i)), .int (nI a), .int (nI b)] (fun U => U.heap.size = sz ∧ cP G S U)) (va_Qv (fun S' => S' = mtS S bi rc nc i a b) (cB G) (gF G sz)) 0 0 (gF G sz) := by
  refine Met.ofW (cc := cX2_mergeTrees) (maxL := 7) (ret := none) (by decide) rfl ?_
  intro p e s m args below meth c s₁ B hml hv
  obtain ⟨rfl, hsz, hW, hK⟩ := hv
  subst hsz
  have hx := B.exec
  have hb := B.bytes
  have hr := B.returns
  have hts := atoms_spec (ws := wsX2_mergeTrees) B.pre
  have hown : s.vm.findClass RX2 = some m.cls := findClass_of_methodNamed B.named
  have hlocks := B.notSynchronized
  have hS : va_S (gF G s.heap.size) s.heap s.heap [] := va_S.rf
  have inX0 : ∀ w ∈ u_ws RX0 TX0 10, w ∈ wsX2_mergeTrees := by decide +kernel
  have inX2 : ∀ w ∈ u_ws RX2 TX2 10, w ∈ wsX2_mergeTrees := by decide +kernel
  have hl := lv_entry ([.ref (gA G 139), .ref (gA G (129 + 5 * i)), .int (nI a), .int (nI b)]) (n := 7) (Nat.le_of_ble_eq_true rfl)
  rw [lg_entry_eq]
  generalize (lg_sl ([.ref (gA G 139), .ref (gA G (129 + 5 * i)), .int (nI a), .int (nI b)]) ++ List.replicate (7 - (lg_sl ([.ref (gA G 139), .ref (gA G (129 + 5 * i)), .int (nI a), .int (nI b)])).length) Slot.unset).toArray = ls at hl ⊢
  have hl : lv_has ls 7 [(0, .ref (gA G 139)), (1, .ref (gA G (129 + 5 * i))), (2, .int (nI a)), (3, .int (nI b))] := hl
  have LP : ∀ (k : Nat) (n : Nat) (Q : SS) (H : Heap) (locs : List Loc), (cW G Q H) → (va_S (gF G s.heap.size) s.heap H locs) → (∀ x : Nat, x ≠ 120 → x ≠ 121 → Q.1 x = S.1 x) → (1 ≤ n) → (n + k = nc) → ∀ (ls : Array Slot), lv_has ls 7 [(0, .ref (gA G 139)), (1, .ref (gA G (129 + 5 * i))), (2, .int (nI a)), (3, .int (nI b)), (4, .int (nI n))] → W p l e (headSpec wsX2_mergeTrees ({ frames := 4, cells := 0, slots := 0, locals := 106 } : Room)).room s m ([.ref (gA G 139), .ref (gA G (129 + 5 * i)), .int (nI a), .int (nI b)] : List Value).toArray below meth c H locs 0 0 (MQ below (va_Qv (fun S' => S' = mtG bi rc i a b k n Q) (cB G) (gF G s.heap.size)) ([.ref (gA G 139), .ref (gA G (129 + 5 * i)), .int (nI a), .int (nI b)] : List Value).toArray s 0 0 (gF G s.heap.size)) (F0 m 15 ls []) := by
    intro k
    induction k with
    | zero =>
      intro n Q H locs hW hS hF h1 h2 ls hl
      have hqn : Q.1 139 7 = nI nc := by rw [hF 139 (by omega) (by omega)]; exact hnc
      have hqr : Q.1 139 4 = nI rc := by rw [hF 139 (by omega) (by omega)]; exact hrc
      refine lv_iload hx hb dX2_mergeTrees_15 (lv_at hl 4 rfl) ?_
      refine lv_aload_n hx hb dX2_mergeTrees_17 rfl (lv_at hl 0 rfl) ?_
      refine va_get (D := gD G) (ci := 2) (v := .int (nI nc)) (C := RX2) (T := TX2) (N := 10) hx hb hts inX2 hown hK.1 hW 139 cw_O rfl 7 (by decide) (hts (.fieldLink RX2 40 "MarkedTrees" "nodeCount" "I") (by decide +kernel)) (fun _ h9 => h9) (by rw [← hqn]; rfl) dX2_mergeTrees_18 ?_
      refine nv_icmp_ge (tgt := 173) hx hb (by omega) (by omega) dX2_mergeTrees_21 (by decide) (fun c_21 => ?_) (fun c_21 => ?_)
      · exact W.vret hx hb hr (fun t9 ht9 _ => ⟨⟨Q, rfl, rfl, (show cW G Q t9.heap by rw [ht9]; exact hW)⟩, hS.F ht9⟩) hS.2.2 dX2_mergeTrees_173
      · exact absurd c_21 (by omega)
    | succ k ih =>
      intro n Q H locs hW hS hF h1 h2 ls hl
      have hqn : Q.1 139 7 = nI nc := by rw [hF 139 (by omega) (by omega)]; exact hnc
      have hqr : Q.1 139 4 = nI rc := by rw [hF 139 (by omega) (by omega)]; exact hrc
      refine lv_iload hx hb dX2_mergeTrees_15 (lv_at hl 4 rfl) ?_
      refine lv_aload_n hx hb dX2_mergeTrees_17 rfl (lv_at hl 0 rfl) ?_
      refine va_get (D := gD G) (ci := 2) (v := .int (nI nc)) (C := RX2) (T := TX2) (N := 10) hx hb hts inX2 hown hK.1 hW 139 cw_O rfl 7 (by decide) (hts (.fieldLink RX2 40 "MarkedTrees" "nodeCount" "I") (by decide +kernel)) (fun _ h9 => h9) (by rw [← hqn]; rfl) dX2_mergeTrees_18 ?_
      refine nv_icmp_ge (tgt := 173) hx hb (by omega) (by omega) dX2_mergeTrees_21 (by decide) (fun c_21 => ?_) (fun c_21 => ?_)
      · exact absurd c_21 (by omega)
      · refine lv_aload_n hx hb dX2_mergeTrees_24 rfl (lv_at hl 1 rfl) ?_
        refine va_get (D := gD G) (ci := 0) (v := .int (Q.1 (129 + 5 * i) 6)) (C := RX0) (T := TX0) (N := 10) hx hb hts inX0 hown hK.1 hW (129 + 5 * i) (cw_P (i := i) (by omega)) rfl 6 (by decide) (hts (.fieldLink RX2 171 "MarkedTrees$Peer" "buried" "I") (by decide +kernel)) (fun _ h9 => h9) rfl dX2_mergeTrees_25 ?_
        refine lv_i2l (v := (Q.1 (129 + 5 * i) 6).toInt64) hx hb dX2_mergeTrees_28 rfl ?_
        refine lv_iload hx hb dX2_mergeTrees_29 (lv_at hl 4 rfl) ?_
        refine pv_i (va_runS (As := [.long ((Q.1 (129 + 5 * i) 6).toInt64), .int (nI n)]) (rest := []) ⟨hx, hb, hml, hown, hts⟩ (k_X2_isIn l ((Q.1 (129 + 5 * i) 6).toInt64) (k := n) (by omega)) (va_cwS 2 hts gX2_mergeTrees_X2_isIn rfl rfl rfl (by decide +kernel) ⟨Nat.le_of_ble_eq_true rfl, Nat.le_of_ble_eq_true rfl⟩) ⟨(fun _ _ _ _ h => h), fun U _ _ => ⟨rfl, trivial⟩⟩ rfl rfl hl.1 rfl (lv_room (Nat.le_of_ble_eq_true rfl)) dX2_mergeTrees_31 ⟨Nat.le_of_ble_eq_true rfl, Nat.le_of_ble_eq_true rfl⟩) (fun r_1 hr_1 => ?_)
        have hr_1 : r_1 = bI (tb ((Q.1 (129 + 5 * i) 6).toInt64) n) := hr_1
        subst hr_1
        refine bv_if_eq (b := tb ((Q.1 (129 + 5 * i) 6).toInt64) n) (tgt := 40) hx hb dX2_mergeTrees_34 (by decide) (fun c_34 => ?_) (fun c_34 => ?_)
        · refine lv_aload_n hx hb dX2_mergeTrees_40 rfl (lv_at hl 0 rfl) ?_
          refine va_get (D := gD G) (ci := 2) (v := .ref (gA G 140)) (C := RX2) (T := TX2) (N := 10) hx hb hts inX2 hown hK.1 hW 139 cw_O rfl 2 (by decide) (hts (.fieldLink RX2 21 "MarkedTrees" "trees" "[LMarkedTrees$Tree;") (by decide +kernel)) (fun _ h9 => h9) rfl dX2_mergeTrees_41 ?_
          refine lv_iload_n hx hb dX2_mergeTrees_44 rfl (lv_at hl 2 rfl) ?_
          refine nv_aald hx hb hK.1 hW 140 3 cw_R rfl (i := a) (b := gA G (3 * a)) (by omega) (by decide) rfl dX2_mergeTrees_45 ?_
          refine lv_iload hx hb dX2_mergeTrees_46 (lv_at hl 4 rfl) ?_
          refine pv_i (va_runV (As := [.int (nI n)]) (rest := []) ⟨hx, hb, hml, hown, hts⟩ (k_X1_isAlive l G Q (t := a) (by omega) (nI n)) (cwV 1 hts gX2_mergeTrees_X1_isAlive rfl rfl rfl (by decide +kernel) ⟨Nat.le_of_ble_eq_true rfl, Nat.le_of_ble_eq_true rfl⟩) ⟨cP_blind, c_recv hW hK (k := (3 * a)) (ci := 1) (cw_T (t := a) (by omega)) rfl, cP_at hW hK hS⟩ rfl rfl hl.1 rfl (lv_room (Nat.le_of_ble_eq_true rfl)) dX2_mergeTrees_48 ⟨Nat.le_of_ble_eq_true rfl, Nat.le_of_ble_eq_true rfl⟩) (fun r_2 hr_2 => ?_)
          rw [aliveB_nI Q a (by omega)] at hr_2
          subst hr_2
          refine lv_istore (lv' := [(5, .int (bI (ti (Q.1 (3 * a) 0) n))), (0, .ref (gA G 139)), (1, .ref (gA G (129 + 5 * i))), (2, .int (nI a)), (3, .int (nI b)), (4, .int (nI n))]) hx hb dX2_mergeTrees_51 hl (by decide) rfl (fun ls hl => ?_)
          refine lv_aload_n hx hb dX2_mergeTrees_53 rfl (lv_at hl 1 rfl) ?_
          refine va_get (D := gD G) (ci := 2) (v := .ref (gA G 140)) (C := RX2) (T := TX2) (N := 10) hx hb hts inX2 hown hK.1 hW 139 cw_O rfl 2 (by decide) (hts (.fieldLink RX2 21 "MarkedTrees" "trees" "[LMarkedTrees$Tree;") (by decide +kernel)) (fun _ h9 => h9) rfl dX2_mergeTrees_54 ?_
          refine lv_iload_n hx hb dX2_mergeTrees_57 rfl (lv_at hl 4 rfl) ?_
          refine nv_aald hx hb hK.1 hW 140 3 cw_R rfl (i := b) (b := gA G (3 * b)) (by omega) (by decide) rfl dX2_mergeTrees_58 ?_
          refine lv_iload hx hb dX2_mergeTrees_59 (lv_at hl 5 rfl) ?_
          refine pv_i (va_runV (As := [.int (nI n)]) (rest := []) ⟨hx, hb, hml, hown, hts⟩ (k_X1_isAlive l G Q (t := b) (by omega) (nI n)) (cwV 1 hts gX2_mergeTrees_X1_isAlive rfl rfl rfl (by decide +kernel) ⟨Nat.le_of_ble_eq_true rfl, Nat.le_of_ble_eq_true rfl⟩) ⟨cP_blind, c_recv hW hK (k := (3 * b)) (ci := 1) (cw_T (t := b) (by omega)) rfl, cP_at hW hK hS⟩ rfl rfl hl.1 rfl (lv_room (Nat.le_of_ble_eq_true rfl)) dX2_mergeTrees_61 ⟨Nat.le_of_ble_eq_true rfl, Nat.le_of_ble_eq_true rfl⟩) (fun r_3 hr_3 => ?_)
          rw [aliveB_nI Q b (by omega)] at hr_3
          subst hr_3
          refine lv_istore (lv' := [(6, .int (bI (ti (Q.1 (3 * b) 0) n))), (5, .int (bI (ti (Q.1 (3 * a) 0) n))), (0, .ref (gA G 139)), (1, .ref (gA G (129 + 5 * i))), (2, .int (nI a)), (3, .int (nI b)), (4, .int (nI n))]) hx hb dX2_mergeTrees_64 hl (by decide) rfl (fun ls hl => ?_)
          refine lv_iload hx hb dX2_mergeTrees_66 (lv_at hl 1 rfl) ?_
          refine bv_if_eq (b := ti (Q.1 (3 * a) 0) n) (tgt := 88) hx hb dX2_mergeTrees_68 (by decide) (fun c_68 => ?_) (fun c_68 => ?_)
          · refine lv_iload hx hb dX2_mergeTrees_88 (lv_at hl 1 rfl) ?_
            refine bv_if_eq (b := ti (Q.1 (3 * a) 0) n) (tgt := 129) hx hb dX2_mergeTrees_90 (by decide) (fun c_90 => ?_) (fun c_90 => ?_)
            · refine lv_iload hx hb dX2_mergeTrees_129 (lv_at hl 0 rfl) ?_
              refine bv_if_eq (b := ti (Q.1 (3 * b) 0) n) (tgt := 167) hx hb dX2_mergeTrees_131 (by decide) (fun c_131 => ?_) (fun c_131 => ?_)
              · refine lv_iinc (v := nI (n + 1)) (lv' := [(4, .int (nI (n + 1))), (6, .int (bI (ti (Q.1 (3 * b) 0) n))), (5, .int (bI (ti (Q.1 (3 * a) 0) n))), (0, .ref (gA G 139)), (1, .ref (gA G (129 + 5 * i))), (2, .int (nI a)), (3, .int (nI b))]) hx hb dX2_mergeTrees_167 hl (k := 6) rfl (nI_add n 1) (by decide) rfl (fun ls hl => ?_)
                refine lv_goto (tgt := 15) hx hb dX2_mergeTrees_170 (by decide) ?_
                have E : mtG bi rc i a b (k + 1) n Q = mtG bi rc i a b k (n + 1) Q := by rw [mtG, mt1, if_neg (by rw [← ti_l _ (by omega), c_34]; exact Bool.false_ne_true), if_neg (by rw [c_68]; exact Bool.false_ne_true), if_neg (by rw [c_131]; exact Bool.false_ne_true)]
                rw [E]
                exact ih (n + 1) Q H locs hW hS hF (by omega) (by omega) ls (lv_sub hl [3, 4, 5, 6, 0] rfl)
              · refine lv_aload_n hx hb dX2_mergeTrees_134 rfl (lv_at hl 2 rfl) ?_
                refine lv_iload_n hx hb dX2_mergeTrees_135 rfl (lv_at hl 4 rfl) ?_
                refine pv_l (va_runV (As := [.int (nI a)]) (rest := []) ⟨hx, hb, hml, hown, hts⟩ (k_X2_upTo l G Q (r0 := a) (by omega)) (cwV 1 hts gX2_mergeTrees_X2_upTo rfl rfl rfl (by decide +kernel) ⟨Nat.le_of_ble_eq_true rfl, Nat.le_of_ble_eq_true rfl⟩) ⟨cP_blind, c_recv hW hK (k := 139) (ci := 2) cw_O rfl, cP_at hW hK hS⟩ rfl rfl hl.1 rfl (lv_room (Nat.le_of_ble_eq_true rfl)) dX2_mergeTrees_136 ⟨Nat.le_of_ble_eq_true rfl, Nat.le_of_ble_eq_true rfl⟩) (fun r_4 hr_4 => ?_)
                have hr_4 : r_4 = Q.2 141 a ||| b64 a := hr_4
                subst hr_4
                refine lv_aload_n hx hb dX2_mergeTrees_139 rfl (lv_at hl 2 rfl) ?_
                refine va_get (D := gD G) (ci := 2) (v := .ref (gA G 142)) (C := RX2) (T := TX2) (N := 10) hx hb hts inX2 hown hK.1 hW 139 cw_O rfl 5 (by decide) (hts (.fieldLink RX2 33 "MarkedTrees" "births" "[I") (by decide +kernel)) (fun _ h9 => h9) rfl dX2_mergeTrees_140 ?_
                refine lv_iload hx hb dX2_mergeTrees_143 (lv_at hl 6 rfl) ?_
                refine nv_iald hx hb hK.1 hW 142 0 cw_B rfl (i := n) (by omega) (by decide) dX2_mergeTrees_145 ?_
                have hqb : Q.1 142 n = nI (bi n) := by rw [hF 142 (by omega) (by omega)]; exact (hbi n (by omega)).2
                have hb40 := (hbi n (by omega)).1
                rw [hqb]
                refine pv_i (va_runS (As := [.long (Q.2 141 a ||| b64 a), .int (nI (bi n))]) (rest := []) ⟨hx, hb, hml, hown, hts⟩ (k_X2_isIn l (Q.2 141 a ||| b64 a) (k := bi n) (by omega)) (va_cwS 2 hts gX2_mergeTrees_X2_isIn rfl rfl rfl (by decide +kernel) ⟨Nat.le_of_ble_eq_true rfl, Nat.le_of_ble_eq_true rfl⟩) ⟨(fun _ _ _ _ h => h), fun U _ _ => ⟨rfl, trivial⟩⟩ rfl rfl hl.1 rfl (lv_room (Nat.le_of_ble_eq_true rfl)) dX2_mergeTrees_146 ⟨Nat.le_of_ble_eq_true rfl, Nat.le_of_ble_eq_true rfl⟩) (fun r_5 hr_5 => ?_)
                have hr_5 : r_5 = bI (tb (Q.2 141 a ||| b64 a) (bi n)) := hr_5
                subst hr_5
                refine bv_if_ne (b := tb (Q.2 141 a ||| b64 a) (bi n)) (tgt := 167) hx hb dX2_mergeTrees_149 (by decide) (fun c_149 => ?_) (fun c_149 => ?_)
                · refine lv_iinc (v := nI (n + 1)) (lv' := [(4, .int (nI (n + 1))), (6, .int (bI (ti (Q.1 (3 * b) 0) n))), (5, .int (bI (ti (Q.1 (3 * a) 0) n))), (0, .ref (gA G 139)), (1, .ref (gA G (129 + 5 * i))), (2, .int (nI a)), (3, .int (nI b))]) hx hb dX2_mergeTrees_167 hl (k := 6) rfl (nI_add n 1) (by decide) rfl (fun ls hl => ?_)
                  refine lv_goto (tgt := 15) hx hb dX2_mergeTrees_170 (by decide) ?_
                  have E : mtG bi rc i a b (k + 1) n Q = mtG bi rc i a b k (n + 1) Q := by rw [mtG, mt1, if_neg (by rw [← ti_l _ (by omega), c_34]; exact Bool.false_ne_true), if_neg (by rw [c_68]; exact Bool.false_ne_true), if_pos c_131, if_pos c_149]
                  rw [E]
                  exact ih (n + 1) Q H locs hW hS hF (by omega) (by omega) ls (lv_sub hl [3, 4, 5, 6, 0] rfl)
                · refine lv_aload_n hx hb dX2_mergeTrees_152 rfl (lv_at hl 2 rfl) ?_
                  refine va_get (D := gD G) (ci := 2) (v := .ref (gA G (3 * 40))) (C := RX2) (T := TX2) (N := 10) hx hb hts inX2 hown hK.1 hW 139 cw_O rfl 8 (by decide) (hts (.fieldLink RX2 44 "MarkedTrees" "merged" "LMarkedTrees$Tree;") (by decide +kernel)) (fun _ h9 => h9) rfl dX2_mergeTrees_153 ?_
                  refine lv_aload_n hx hb dX2_mergeTrees_156 rfl (lv_at hl 2 rfl) ?_
                  refine va_get (D := gD G) (ci := 2) (v := .ref (gA G 140)) (C := RX2) (T := TX2) (N := 10) hx hb hts inX2 hown hK.1 hW 139 cw_O rfl 2 (by decide) (hts (.fieldLink RX2 21 "MarkedTrees" "trees" "[LMarkedTrees$Tree;") (by decide +kernel)) (fun _ h9 => h9) rfl dX2_mergeTrees_157 ?_
                  refine lv_iload_n hx hb dX2_mergeTrees_160 rfl (lv_at hl 5 rfl) ?_
                  refine nv_aald hx hb hK.1 hW 140 3 cw_R rfl (i := b) (b := gA G (3 * b)) (by omega) (by decide) rfl dX2_mergeTrees_161 ?_
                  refine lv_iload hx hb dX2_mergeTrees_162 (lv_at hl 6 rfl) ?_
                  refine ev_v (va_runV (As := [.ref (gA G (3 * b)), .int (nI n)]) (rest := []) ⟨hx, hb, hml, hown, hts⟩ (k_X1_copyNode l G Q H.size (t := 40) (by omega) (u := b) (by omega) (n := n) (by omega)) (cwV 2 hts gX2_mergeTrees_X1_copyNode rfl rfl rfl (by decide +kernel) ⟨Nat.le_of_ble_eq_true rfl, Nat.le_of_ble_eq_true rfl⟩) ⟨cQ_blind, c_recv hW hK (k := (3 * 40)) (ci := 1) (cw_T (t := 40) (by omega)) rfl, cQ_at hW hK hS⟩ rfl rfl hl.1 rfl (lv_room (Nat.le_of_ble_eq_true rfl)) dX2_mergeTrees_164 ⟨Nat.le_of_ble_eq_true rfl, Nat.le_of_ble_eq_true rfl⟩) hS (fun S_6 t9 H locs ht9 hS_6 hW hS => ?_)
                  have hW : cW G S_6 H := ht9 ▸ hW
                  refine lv_iinc (v := nI (n + 1)) (lv' := [(4, .int (nI (n + 1))), (6, .int (bI (ti (Q.1 (3 * b) 0) n))), (5, .int (bI (ti (Q.1 (3 * a) 0) n))), (0, .ref (gA G 139)), (1, .ref (gA G (129 + 5 * i))), (2, .int (nI a)), (3, .int (nI b))]) hx hb dX2_mergeTrees_167 hl (k := 6) rfl (nI_add n 1) (by decide) rfl (fun ls hl => ?_)
                  refine lv_goto (tgt := 15) hx hb dX2_mergeTrees_170 (by decide) ?_
                  have E : mtG bi rc i a b (k + 1) n Q = mtG bi rc i a b k (n + 1) S_6 := by rw [mtG, mt1, if_neg (by rw [← ti_l _ (by omega), c_34]; exact Bool.false_ne_true), if_neg (by rw [c_68]; exact Bool.false_ne_true), if_pos c_131, if_neg (by rw [c_149]; exact Bool.false_ne_true), hS_6]
                  rw [E]
                  exact ih (n + 1) S_6 H locs hW hS (fun x h0 h1 => by rw [hS_6, cnS_F _ _ _ _ h0 h1]; exact hF x h0 h1) (by omega) (by omega) ls (lv_sub hl [3, 4, 5, 6, 0] rfl)
            · exact absurd (c_68.symm.trans c_90) (by decide)
          · refine lv_iload hx hb dX2_mergeTrees_71 (lv_at hl 0 rfl) ?_
            refine bv_if_eq (b := ti (Q.1 (3 * b) 0) n) (tgt := 88) hx hb dX2_mergeTrees_73 (by decide) (fun c_73 => ?_) (fun c_73 => ?_)
            · refine lv_iload hx hb dX2_mergeTrees_88 (lv_at hl 1 rfl) ?_
              refine bv_if_eq (b := ti (Q.1 (3 * a) 0) n) (tgt := 129) hx hb dX2_mergeTrees_90 (by decide) (fun c_90 => ?_) (fun c_90 => ?_)
              · exact absurd (c_68.symm.trans c_90) (by decide)
              · refine lv_aload_n hx hb dX2_mergeTrees_93 rfl (lv_at hl 2 rfl) ?_
                refine lv_iload_n hx hb dX2_mergeTrees_94 rfl (lv_at hl 5 rfl) ?_
                refine pv_l (va_runV (As := [.int (nI b)]) (rest := []) ⟨hx, hb, hml, hown, hts⟩ (k_X2_upTo l G Q (r0 := b) (by omega)) (cwV 1 hts gX2_mergeTrees_X2_upTo rfl rfl rfl (by decide +kernel) ⟨Nat.le_of_ble_eq_true rfl, Nat.le_of_ble_eq_true rfl⟩) ⟨cP_blind, c_recv hW hK (k := 139) (ci := 2) cw_O rfl, cP_at hW hK hS⟩ rfl rfl hl.1 rfl (lv_room (Nat.le_of_ble_eq_true rfl)) dX2_mergeTrees_95 ⟨Nat.le_of_ble_eq_true rfl, Nat.le_of_ble_eq_true rfl⟩) (fun r_7 hr_7 => ?_)
                have hr_7 : r_7 = Q.2 141 b ||| b64 b := hr_7
                subst hr_7
                refine lv_aload_n hx hb dX2_mergeTrees_98 rfl (lv_at hl 2 rfl) ?_
                refine va_get (D := gD G) (ci := 2) (v := .ref (gA G 142)) (C := RX2) (T := TX2) (N := 10) hx hb hts inX2 hown hK.1 hW 139 cw_O rfl 5 (by decide) (hts (.fieldLink RX2 33 "MarkedTrees" "births" "[I") (by decide +kernel)) (fun _ h9 => h9) rfl dX2_mergeTrees_99 ?_
                refine lv_iload hx hb dX2_mergeTrees_102 (lv_at hl 6 rfl) ?_
                refine nv_iald hx hb hK.1 hW 142 0 cw_B rfl (i := n) (by omega) (by decide) dX2_mergeTrees_104 ?_
                have hqb : Q.1 142 n = nI (bi n) := by rw [hF 142 (by omega) (by omega)]; exact (hbi n (by omega)).2
                have hb40 := (hbi n (by omega)).1
                rw [hqb]
                refine pv_i (va_runS (As := [.long (Q.2 141 b ||| b64 b), .int (nI (bi n))]) (rest := []) ⟨hx, hb, hml, hown, hts⟩ (k_X2_isIn l (Q.2 141 b ||| b64 b) (k := bi n) (by omega)) (va_cwS 2 hts gX2_mergeTrees_X2_isIn rfl rfl rfl (by decide +kernel) ⟨Nat.le_of_ble_eq_true rfl, Nat.le_of_ble_eq_true rfl⟩) ⟨(fun _ _ _ _ h => h), fun U _ _ => ⟨rfl, trivial⟩⟩ rfl rfl hl.1 rfl (lv_room (Nat.le_of_ble_eq_true rfl)) dX2_mergeTrees_105 ⟨Nat.le_of_ble_eq_true rfl, Nat.le_of_ble_eq_true rfl⟩) (fun r_8 hr_8 => ?_)
                have hr_8 : r_8 = bI (tb (Q.2 141 b ||| b64 b) (bi n)) := hr_8
                subst hr_8
                refine bv_if_ne (b := tb (Q.2 141 b ||| b64 b) (bi n)) (tgt := 129) hx hb dX2_mergeTrees_108 (by decide) (fun c_108 => ?_) (fun c_108 => ?_)
                · refine lv_iload hx hb dX2_mergeTrees_129 (lv_at hl 0 rfl) ?_
                  refine bv_if_eq (b := ti (Q.1 (3 * b) 0) n) (tgt := 167) hx hb dX2_mergeTrees_131 (by decide) (fun c_131 => ?_) (fun c_131 => ?_)
                  · refine lv_iinc (v := nI (n + 1)) (lv' := [(4, .int (nI (n + 1))), (6, .int (bI (ti (Q.1 (3 * b) 0) n))), (5, .int (bI (ti (Q.1 (3 * a) 0) n))), (0, .ref (gA G 139)), (1, .ref (gA G (129 + 5 * i))), (2, .int (nI a)), (3, .int (nI b))]) hx hb dX2_mergeTrees_167 hl (k := 6) rfl (nI_add n 1) (by decide) rfl (fun ls hl => ?_)
                    refine lv_goto (tgt := 15) hx hb dX2_mergeTrees_170 (by decide) ?_
                    have E : mtG bi rc i a b (k + 1) n Q = mtG bi rc i a b k (n + 1) Q := by rw [mtG, mt1, if_neg (by rw [← ti_l _ (by omega), c_34]; exact Bool.false_ne_true), if_pos c_68, if_neg (by rw [c_73]; exact Bool.false_ne_true), if_pos c_108]
                    rw [E]
                    exact ih (n + 1) Q H locs hW hS hF (by omega) (by omega) ls (lv_sub hl [3, 4, 5, 6, 0] rfl)
                  · exact absurd (c_73.symm.trans c_131) (by decide)
                · refine lv_aload_n hx hb dX2_mergeTrees_111 rfl (lv_at hl 2 rfl) ?_
                  refine va_get (D := gD G) (ci := 2) (v := .ref (gA G (3 * 40))) (C := RX2) (T := TX2) (N := 10) hx hb hts inX2 hown hK.1 hW 139 cw_O rfl 8 (by decide) (hts (.fieldLink RX2 44 "MarkedTrees" "merged" "LMarkedTrees$Tree;") (by decide +kernel)) (fun _ h9 => h9) rfl dX2_mergeTrees_112 ?_
                  refine lv_aload_n hx hb dX2_mergeTrees_115 rfl (lv_at hl 2 rfl) ?_
                  refine va_get (D := gD G) (ci := 2) (v := .ref (gA G 140)) (C := RX2) (T := TX2) (N := 10) hx hb hts inX2 hown hK.1 hW 139 cw_O rfl 2 (by decide) (hts (.fieldLink RX2 21 "MarkedTrees" "trees" "[LMarkedTrees$Tree;") (by decide +kernel)) (fun _ h9 => h9) rfl dX2_mergeTrees_116 ?_
                  refine lv_iload_n hx hb dX2_mergeTrees_119 rfl (lv_at hl 4 rfl) ?_
                  refine nv_aald hx hb hK.1 hW 140 3 cw_R rfl (i := a) (b := gA G (3 * a)) (by omega) (by decide) rfl dX2_mergeTrees_120 ?_
                  refine lv_iload hx hb dX2_mergeTrees_121 (lv_at hl 6 rfl) ?_
                  refine ev_v (va_runV (As := [.ref (gA G (3 * a)), .int (nI n)]) (rest := []) ⟨hx, hb, hml, hown, hts⟩ (k_X1_copyNode l G Q H.size (t := 40) (by omega) (u := a) (by omega) (n := n) (by omega)) (cwV 2 hts gX2_mergeTrees_X1_copyNode rfl rfl rfl (by decide +kernel) ⟨Nat.le_of_ble_eq_true rfl, Nat.le_of_ble_eq_true rfl⟩) ⟨cQ_blind, c_recv hW hK (k := (3 * 40)) (ci := 1) (cw_T (t := 40) (by omega)) rfl, cQ_at hW hK hS⟩ rfl rfl hl.1 rfl (lv_room (Nat.le_of_ble_eq_true rfl)) dX2_mergeTrees_123 ⟨Nat.le_of_ble_eq_true rfl, Nat.le_of_ble_eq_true rfl⟩) hS (fun S_9 t9 H locs ht9 hS_9 hW hS => ?_)
                  have hW : cW G S_9 H := ht9 ▸ hW
                  refine lv_goto (tgt := 167) hx hb dX2_mergeTrees_126 (by decide) ?_
                  refine lv_iinc (v := nI (n + 1)) (lv' := [(4, .int (nI (n + 1))), (6, .int (bI (ti (Q.1 (3 * b) 0) n))), (5, .int (bI (ti (Q.1 (3 * a) 0) n))), (0, .ref (gA G 139)), (1, .ref (gA G (129 + 5 * i))), (2, .int (nI a)), (3, .int (nI b))]) hx hb dX2_mergeTrees_167 hl (k := 6) rfl (nI_add n 1) (by decide) rfl (fun ls hl => ?_)
                  refine lv_goto (tgt := 15) hx hb dX2_mergeTrees_170 (by decide) ?_
                  have E : mtG bi rc i a b (k + 1) n Q = mtG bi rc i a b k (n + 1) S_9 := by rw [mtG, mt1, if_neg (by rw [← ti_l _ (by omega), c_34]; exact Bool.false_ne_true), if_pos c_68, if_neg (by rw [c_73]; exact Bool.false_ne_true), if_neg (by rw [c_108]; exact Bool.false_ne_true), hS_9]
                  rw [E]
                  exact ih (n + 1) S_9 H locs hW hS (fun x h0 h1 => by rw [hS_9, cnS_F _ _ _ _ h0 h1]; exact hF x h0 h1) (by omega) (by omega) ls (lv_sub hl [3, 4, 5, 6, 0] rfl)
            · refine lv_aload_n hx hb dX2_mergeTrees_76 rfl (lv_at hl 2 rfl) ?_
              refine lv_aload_n hx hb dX2_mergeTrees_77 rfl (lv_at hl 3 rfl) ?_
              refine lv_iload hx hb dX2_mergeTrees_78 (lv_at hl 6 rfl) ?_
              refine lv_iload_n hx hb dX2_mergeTrees_80 rfl (lv_at hl 4 rfl) ?_
              refine lv_iload_n hx hb dX2_mergeTrees_81 rfl (lv_at hl 5 rfl) ?_
              refine ev_v (va_runV (As := [.ref (gA G (129 + 5 * i)), .int (nI n), .int (nI a), .int (nI b)]) (rest := []) ⟨hx, hb, hml, hown, hts⟩ (k_X2_mergeNode l G Q H.size (rc := rc) hqr (by omega) (i := i) (by omega) (n := n) (a := a) (b := b) (by omega) (by omega) (by omega)) (cwV 4 hts gX2_mergeTrees_X2_mergeNode rfl rfl rfl (by decide +kernel) ⟨Nat.le_of_ble_eq_true rfl, Nat.le_of_ble_eq_true rfl⟩) ⟨cQ_blind, c_recv hW hK (k := 139) (ci := 2) cw_O rfl, cQ_at hW hK hS⟩ rfl rfl hl.1 rfl (lv_room (Nat.le_of_ble_eq_true rfl)) dX2_mergeTrees_82 ⟨Nat.le_of_ble_eq_true rfl, Nat.le_of_ble_eq_true rfl⟩) hS (fun S_10 t9 H locs ht9 hS_10 hW hS => ?_)
              have hW : cW G S_10 H := ht9 ▸ hW
              refine lv_goto (tgt := 167) hx hb dX2_mergeTrees_85 (by decide) ?_
              refine lv_iinc (v := nI (n + 1)) (lv' := [(4, .int (nI (n + 1))), (6, .int (bI (ti (Q.1 (3 * b) 0) n))), (5, .int (bI (ti (Q.1 (3 * a) 0) n))), (0, .ref (gA G 139)), (1, .ref (gA G (129 + 5 * i))), (2, .int (nI a)), (3, .int (nI b))]) hx hb dX2_mergeTrees_167 hl (k := 6) rfl (nI_add n 1) (by decide) rfl (fun ls hl => ?_)
              refine lv_goto (tgt := 15) hx hb dX2_mergeTrees_170 (by decide) ?_
              have E : mtG bi rc i a b (k + 1) n Q = mtG bi rc i a b k (n + 1) S_10 := by rw [mtG, mt1, if_neg (by rw [← ti_l _ (by omega), c_34]; exact Bool.false_ne_true), if_pos c_68, if_pos c_73, hS_10]
              rw [E]
              exact ih (n + 1) S_10 H locs hW hS (fun x h0 h1 => by rw [hS_10, mnS_F _ _ _ _ _ _ h0 h1]; exact hF x h0 h1) (by omega) (by omega) ls (lv_sub hl [3, 4, 5, 6, 0] rfl)
        · refine lv_goto (tgt := 167) hx hb dX2_mergeTrees_37 (by decide) ?_
          refine lv_iinc (v := nI (n + 1)) (lv' := [(4, .int (nI (n + 1))), (0, .ref (gA G 139)), (1, .ref (gA G (129 + 5 * i))), (2, .int (nI a)), (3, .int (nI b))]) hx hb dX2_mergeTrees_167 hl (k := 4) rfl (nI_add n 1) (by decide) rfl (fun ls hl => ?_)
          refine lv_goto (tgt := 15) hx hb dX2_mergeTrees_170 (by decide) ?_
          have E : mtG bi rc i a b (k + 1) n Q = mtG bi rc i a b k (n + 1) Q := by rw [mtG, mt1, if_pos (by rw [← ti_l _ (by omega)]; exact c_34)]
          rw [E]
          exact ih (n + 1) Q H locs hW hS hF (by omega) (by omega) ls (lv_sub hl [1, 2, 3, 4, 0] rfl)
  refine lv_aload_n hx hb dX2_mergeTrees_0 rfl (lv_at hl 0 rfl) ?_
  refine va_get (D := gD G) (ci := 2) (v := .ref (gA G (3 * 40))) (C := RX2) (T := TX2) (N := 10) hx hb hts inX2 hown hK.1 hW 139 cw_O rfl 8 (by decide) (hts (.fieldLink RX2 44 "MarkedTrees" "merged" "LMarkedTrees$Tree;") (by decide +kernel)) (fun _ h9 => h9) rfl dX2_mergeTrees_1 ?_
  refine ev_v (va_runV (As := []) (rest := []) ⟨hx, hb, hml, hown, hts⟩ (k_X1_clear l G S s.heap.size (t := 40) (by omega)) (cwV 0 hts gX2_mergeTrees_X1_clear rfl rfl rfl (by decide +kernel) ⟨Nat.le_of_ble_eq_true rfl, Nat.le_of_ble_eq_true rfl⟩) ⟨cQ_blind, c_recv hW hK (k := (3 * 40)) (ci := 1) (cw_T (t := 40) (by omega)) rfl, cQ_at hW hK hS⟩ rfl rfl hl.1 rfl (lv_room (Nat.le_of_ble_eq_true rfl)) dX2_mergeTrees_4 ⟨Nat.le_of_ble_eq_true rfl, Nat.le_of_ble_eq_true rfl⟩) hS (fun S_11 t9 H locs ht9 hS_11 hW hS => ?_)
  have hW : cW G S_11 H := ht9 ▸ hW
  refine lv_aload_n hx hb dX2_mergeTrees_7 rfl (lv_at hl 0 rfl) ?_
  refine lv_lconst (v := 0) hx hb dX2_mergeTrees_8 (by decide) ?_
  refine va_put (D := gD G) (ci := 2) (v := .long 0) (ty := .long) (C := RX2) (T := TX2) (N := 10) hx hb hts inX2 tyX2 tyX2_ok nmX2 hown hK.1 hW (wl_D hK.2.1) hS 139 cw_O rfl 9 (by decide) (hts (.fieldLink RX2 301 "MarkedTrees" "undecided" "J") (by decide +kernel)) (fun _ h9 => h9) rfl (by decide +kernel) rfl rfl (Nat.le_of_ble_eq_true rfl) dX2_mergeTrees_9 (fun H locs hW _ hS => ?_)
  have hW : cW G (s2 S_11 139 9 0) H := cp_O_9 hW
  obtain ⟨S_12, eS_12⟩ : ∃ z, z = s2 S_11 139 9 0 := ⟨_, rfl⟩
  rw [← eS_12] at hW
  refine lv_iconst (v := nI 1) hx hb dX2_mergeTrees_12 (by decide) ?_
  refine lv_istore (lv' := [(4, .int (nI 1)), (0, .ref (gA G 139)), (1, .ref (gA G (129 + 5 * i))), (2, .int (nI a)), (3, .int (nI b))]) hx hb dX2_mergeTrees_13 hl (by decide) rfl (fun ls hl => ?_)
  have E : mtS S bi rc nc i a b = mtG bi rc i a b (nc - 1) 1 S_12 := by subst_vars; rfl
  rw [E]
  exact LP (nc - 1) 1 S_12 H locs hW hS (fun x h0 h1 => by subst_vars; exact s1_ne _ _ _ _ h0) (by omega) (by omega) ls (lv_sub hl [1, 2, 3, 4, 0] rfl)

set_option maxHeartbeats 4000000 in
set_option maxRecDepth 100000 in
theorem k_X2_listPlaceConflict (l : Launch) (G : GT) (S : SS) (sz : Nat) {i : Nat} (hi : i < 2) {c0 : Nat} (hc : S.1 (129 + 5 * i) 9 = nI c0) (h48 : c0 < 48) {n : Nat} (hn : n < 16) : Met l yX2_listPlaceConflict wsX2_listPlaceConflict ({ frames := 4, cells := 0, slots := 0, locals := 89 } : Room) (va_Pc [.ref (gA G 139), .ref (gA G (129 + 5 * i)), .int (nI n)] (fun U => U.heap.size = sz ∧ cP G S U)) (va_Qv (fun S' => S' = pcS S i c0 n) (cB G) (gF G sz)) 0 0 (gF G sz) := by
  refine Met.ofW (cc := cX2_listPlaceConflict) (maxL := 4) (ret := none) (by decide) rfl ?_
  intro p e s m args below meth c s₁ B hml hv
  obtain ⟨rfl, hsz, hW, hK⟩ := hv
  subst hsz
  have hx := B.exec
  have hb := B.bytes
  have hr := B.returns
  have hts := atoms_spec (ws := wsX2_listPlaceConflict) B.pre
  have hown : s.vm.findClass RX2 = some m.cls := findClass_of_methodNamed B.named
  have hlocks := B.notSynchronized
  have hS : va_S (gF G s.heap.size) s.heap s.heap [] := va_S.rf
  have inX2 : ∀ w ∈ u_ws RX2 TX2 10, w ∈ wsX2_listPlaceConflict := by decide +kernel
  have hl := lv_entry ([.ref (gA G 139), .ref (gA G (129 + 5 * i)), .int (nI n)]) (n := 4) (Nat.le_of_ble_eq_true rfl)
  rw [lg_entry_eq]
  generalize (lg_sl ([.ref (gA G 139), .ref (gA G (129 + 5 * i)), .int (nI n)]) ++ List.replicate (4 - (lg_sl ([.ref (gA G 139), .ref (gA G (129 + 5 * i)), .int (nI n)])).length) Slot.unset).toArray = ls at hl ⊢
  have hl : lv_has ls 4 [(0, .ref (gA G 139)), (1, .ref (gA G (129 + 5 * i))), (2, .int (nI n))] := hl
  refine lv_aload_n hx hb dX2_listPlaceConflict_0 rfl (lv_at hl 0 rfl) ?_
  refine va_get (D := gD G) (ci := 2) (v := .ref (gA G (3 * 40))) (C := RX2) (T := TX2) (N := 10) hx hb hts inX2 hown hK.1 hW 139 cw_O rfl 8 (by decide) (hts (.fieldLink RX2 44 "MarkedTrees" "merged" "LMarkedTrees$Tree;") (by decide +kernel)) (fun _ h9 => h9) rfl dX2_listPlaceConflict_1 ?_
  refine lv_iload_n hx hb dX2_listPlaceConflict_4 rfl (lv_at hl 2 rfl) ?_
  refine pv_i (va_runV (As := [.int (nI n)]) (rest := []) ⟨hx, hb, hml, hown, hts⟩ (k_X1_parentOf l G S (t := 40) (by omega) (n := n) (by omega)) (cwV 1 hts gX2_listPlaceConflict_X1_parentOf rfl rfl rfl (by decide +kernel) ⟨Nat.le_of_ble_eq_true rfl, Nat.le_of_ble_eq_true rfl⟩) ⟨cP_blind, c_recv hW hK (k := (3 * 40)) (ci := 1) (cw_T (t := 40) (by omega)) rfl, cP_at hW hK hS⟩ rfl rfl hl.1 rfl (lv_room (Nat.le_of_ble_eq_true rfl)) dX2_listPlaceConflict_5 ⟨Nat.le_of_ble_eq_true rfl, Nat.le_of_ble_eq_true rfl⟩) (fun r_1 hr_1 => ?_)
  have hr_1 : r_1 = dP (S.1 (3 * 40 + 1) (n * 3)) := hr_1
  subst hr_1
  refine lv_istore_n (lv' := [(3, .int (dP (S.1 (3 * 40 + 1) (n * 3)))), (0, .ref (gA G 139)), (1, .ref (gA G (129 + 5 * i))), (2, .int (nI n))]) hx hb dX2_listPlaceConflict_8 rfl hl (by decide) rfl (fun ls hl => ?_)
  refine lv_aload_n hx hb dX2_listPlaceConflict_9 rfl (lv_at hl 1 rfl) ?_
  refine va_get (D := gD G) (ci := 2) (v := .ref (gA G (3 * 40))) (C := RX2) (T := TX2) (N := 10) hx hb hts inX2 hown hK.1 hW 139 cw_O rfl 8 (by decide) (hts (.fieldLink RX2 44 "MarkedTrees" "merged" "LMarkedTrees$Tree;") (by decide +kernel)) (fun _ h9 => h9) rfl dX2_listPlaceConflict_10 ?_
  refine lv_iload_n hx hb dX2_listPlaceConflict_13 rfl (lv_at hl 0 rfl) ?_
  refine pv_i (va_runV (As := [.int (dP (S.1 (3 * 40 + 1) (n * 3)))]) (rest := []) ⟨hx, hb, hml, hown, hts⟩ (k_X1_isAlive l G S (t := 40) (by omega) (dP (S.1 (3 * 40 + 1) (n * 3)))) (cwV 1 hts gX2_listPlaceConflict_X1_isAlive rfl rfl rfl (by decide +kernel) ⟨Nat.le_of_ble_eq_true rfl, Nat.le_of_ble_eq_true rfl⟩) ⟨cP_blind, c_recv hW hK (k := (3 * 40)) (ci := 1) (cw_T (t := 40) (by omega)) rfl, cP_at hW hK hS⟩ rfl rfl hl.1 rfl (lv_room (Nat.le_of_ble_eq_true rfl)) dX2_listPlaceConflict_14 ⟨Nat.le_of_ble_eq_true rfl, Nat.le_of_ble_eq_true rfl⟩) (fun r_2 hr_2 => ?_)
  subst hr_2
  refine bv_if_ne (b := aliveB S 40 (dP (S.1 (3 * 40 + 1) (n * 3)))) (tgt := 29) hx hb dX2_listPlaceConflict_17 (by decide) (fun c_17 => ?_) (fun c_17 => ?_)
  · refine lv_aload_n hx hb dX2_listPlaceConflict_29 rfl (lv_at hl 1 rfl) ?_
    refine va_get (D := gD G) (ci := 2) (v := .ref (gA G (3 * 40))) (C := RX2) (T := TX2) (N := 10) hx hb hts inX2 hown hK.1 hW 139 cw_O rfl 8 (by decide) (hts (.fieldLink RX2 44 "MarkedTrees" "merged" "LMarkedTrees$Tree;") (by decide +kernel)) (fun _ h9 => h9) rfl dX2_listPlaceConflict_30 ?_
    refine lv_aload_n hx hb dX2_listPlaceConflict_33 rfl (lv_at hl 1 rfl) ?_
    refine va_get (D := gD G) (ci := 2) (v := .ref (gA G (3 * 40))) (C := RX2) (T := TX2) (N := 10) hx hb hts inX2 hown hK.1 hW 139 cw_O rfl 8 (by decide) (hts (.fieldLink RX2 44 "MarkedTrees" "merged" "LMarkedTrees$Tree;") (by decide +kernel)) (fun _ h9 => h9) rfl dX2_listPlaceConflict_34 ?_
    refine lv_iload_n hx hb dX2_listPlaceConflict_37 rfl (lv_at hl 3 rfl) ?_
    refine lv_iconst (v := nI 0) hx hb dX2_listPlaceConflict_38 (by decide) ?_
    refine pv_i (va_runV (As := [.int (nI n), .int (nI 0)]) (rest := [.ref (gA G (3 * 40))]) ⟨hx, hb, hml, hown, hts⟩ (k_X1_valueOf l G S (t := 40) (by omega) (n := n) (w := 0) (by omega) (by omega)) (cwV 2 hts gX2_listPlaceConflict_X1_valueOf rfl rfl rfl (by decide +kernel) ⟨Nat.le_of_ble_eq_true rfl, Nat.le_of_ble_eq_true rfl⟩) ⟨cP_blind, c_recv hW hK (k := (3 * 40)) (ci := 1) (cw_T (t := 40) (by omega)) rfl, cP_at hW hK hS⟩ rfl rfl hl.1 rfl (lv_room (Nat.le_of_ble_eq_true rfl)) dX2_listPlaceConflict_39 ⟨Nat.le_of_ble_eq_true rfl, Nat.le_of_ble_eq_true rfl⟩) (fun r_3 hr_3 => ?_)
    have hr_3 : r_3 = S.1 (3 * 40 + 1) (n * 3) := hr_3
    subst hr_3
    refine pv_i (va_runV (As := [.int (S.1 (3 * 40 + 1) (n * 3))]) (rest := []) ⟨hx, hb, hml, hown, hts⟩ (k_X1_lowestAt l G S (t := 40) (by omega) (S.1 (3 * 40 + 1) (n * 3))) (cwV 1 hts gX2_listPlaceConflict_X1_lowestAt rfl rfl rfl (by decide +kernel) ⟨Nat.le_of_ble_eq_true rfl, Nat.le_of_ble_eq_true rfl⟩) ⟨cP_blind, c_recv hW hK (k := (3 * 40)) (ci := 1) (cw_T (t := 40) (by omega)) rfl, cP_at hW hK hS⟩ rfl rfl hl.1 rfl (lv_room (Nat.le_of_ble_eq_true rfl)) dX2_listPlaceConflict_42 ⟨Nat.le_of_ble_eq_true rfl, Nat.le_of_ble_eq_true rfl⟩) (fun r_4 hr_4 => ?_)
    have hr_4 : r_4 = lowG (fun j => ti (S.1 (3 * 40) 0) j && (S.1 (3 * 40 + 1) (j * 3) == S.1 (3 * 40 + 1) (n * 3))) 15 1 := hr_4
    subst hr_4
    refine lv_iload_n hx hb dX2_listPlaceConflict_45 rfl (lv_at hl 3 rfl) ?_
    refine lv_icmp_eq (tgt := 58) hx hb dX2_listPlaceConflict_46 (by decide) (fun c_46 => ?_) (fun c_46 => ?_)
    · refine lv_aload_n hx hb dX2_listPlaceConflict_58 rfl (lv_at hl 1 rfl) ?_
      refine va_get (D := gD G) (ci := 2) (v := .ref (gA G (3 * 40))) (C := RX2) (T := TX2) (N := 10) hx hb hts inX2 hown hK.1 hW 139 cw_O rfl 8 (by decide) (hts (.fieldLink RX2 44 "MarkedTrees" "merged" "LMarkedTrees$Tree;") (by decide +kernel)) (fun _ h9 => h9) rfl dX2_listPlaceConflict_59 ?_
      refine lv_iload_n hx hb dX2_listPlaceConflict_62 rfl (lv_at hl 0 rfl) ?_
      refine lv_iload_n hx hb dX2_listPlaceConflict_63 rfl (lv_at hl 3 rfl) ?_
      refine pv_i (va_runV (As := [.int (dP (S.1 (3 * 40 + 1) (n * 3))), .int (nI n)]) (rest := []) ⟨hx, hb, hml, hown, hts⟩ (k_X1_leadsTo l G S (t := 40) (by omega) (dP (S.1 (3 * 40 + 1) (n * 3))) (nI n)) (cwV 2 hts gX2_listPlaceConflict_X1_leadsTo rfl rfl rfl (by decide +kernel) ⟨Nat.le_of_ble_eq_true rfl, Nat.le_of_ble_eq_true rfl⟩) ⟨cP_blind, c_recv hW hK (k := (3 * 40)) (ci := 1) (cw_T (t := 40) (by omega)) rfl, cP_at hW hK hS⟩ rfl rfl hl.1 rfl (lv_room (Nat.le_of_ble_eq_true rfl)) dX2_listPlaceConflict_64 ⟨Nat.le_of_ble_eq_true rfl, Nat.le_of_ble_eq_true rfl⟩) (fun r_5 hr_5 => ?_)
      have hr_5 : r_5 = bI (leadG S 40 (nI n) 16 (dP (S.1 (3 * 40 + 1) (n * 3)))) := hr_5
      subst hr_5
      refine bv_if_eq (b := leadG S 40 (nI n) 16 (dP (S.1 (3 * 40 + 1) (n * 3)))) (tgt := 76) hx hb dX2_listPlaceConflict_67 (by decide) (fun c_67 => ?_) (fun c_67 => ?_)
      · exact W.vret hx hb hr (fun t9 ht9 _ => ⟨⟨S, rfl, (by unfold pcS; rw [if_pos (show pcK S n = 0 by unfold pcK; rw [if_neg (by rw [c_17]; decide), if_neg (fun h => h c_46), if_neg (by rw [c_67]; decide)])]), (show cW G S t9.heap by rw [ht9]; exact hW)⟩, hS.F ht9⟩) hS.2.2 dX2_listPlaceConflict_76
      · refine lv_aload_n hx hb dX2_listPlaceConflict_70 rfl (lv_at hl 2 rfl) ?_
        refine lv_iload_n hx hb dX2_listPlaceConflict_71 rfl (lv_at hl 3 rfl) ?_
        refine lv_iconst (v := nI 5) hx hb dX2_listPlaceConflict_72 (by decide) ?_
        refine ev_v (va_runV (As := [.int (nI n), .int (nI 5)]) (rest := []) ⟨hx, hb, hml, hown, hts⟩ (k_X0_list l G S s.heap.size (i := i) (by omega) (c0 := c0) hc (by omega) (nI n) (nI 5)) (cwV 2 hts gX2_listPlaceConflict_X0_list rfl rfl rfl (by decide +kernel) ⟨Nat.le_of_ble_eq_true rfl, Nat.le_of_ble_eq_true rfl⟩) ⟨cQ_blind, c_recv hW hK (k := (129 + 5 * i)) (ci := 0) (cw_P (i := i) (by omega)) rfl, cQ_at hW hK hS⟩ rfl rfl hl.1 rfl (lv_room (Nat.le_of_ble_eq_true rfl)) dX2_listPlaceConflict_73 ⟨Nat.le_of_ble_eq_true rfl, Nat.le_of_ble_eq_true rfl⟩) hS (fun S_6 t9 H locs ht9 hS_6 hW hS => ?_)
        have hW : cW G S_6 H := ht9 ▸ hW
        exact W.vret hx hb hr (fun t9 ht9 _ => ⟨⟨S_6, rfl, (by unfold pcS; rw [show pcK S n = 5 by unfold pcK; rw [if_neg (by rw [c_17]; decide), if_neg (fun h => h c_46), if_pos c_67], if_neg (by decide)]; exact hS_6), (show cW G S_6 t9.heap by rw [ht9]; exact hW)⟩, hS.F ht9⟩) hS.2.2 dX2_listPlaceConflict_76
    · refine lv_aload_n hx hb dX2_listPlaceConflict_49 rfl (lv_at hl 2 rfl) ?_
      refine lv_iload_n hx hb dX2_listPlaceConflict_50 rfl (lv_at hl 3 rfl) ?_
      refine lv_iconst (v := nI 4) hx hb dX2_listPlaceConflict_51 (by decide) ?_
      refine ev_v (va_runV (As := [.int (nI n), .int (nI 4)]) (rest := []) ⟨hx, hb, hml, hown, hts⟩ (k_X0_list l G S s.heap.size (i := i) (by omega) (c0 := c0) hc (by omega) (nI n) (nI 4)) (cwV 2 hts gX2_listPlaceConflict_X0_list rfl rfl rfl (by decide +kernel) ⟨Nat.le_of_ble_eq_true rfl, Nat.le_of_ble_eq_true rfl⟩) ⟨cQ_blind, c_recv hW hK (k := (129 + 5 * i)) (ci := 0) (cw_P (i := i) (by omega)) rfl, cQ_at hW hK hS⟩ rfl rfl hl.1 rfl (lv_room (Nat.le_of_ble_eq_true rfl)) dX2_listPlaceConflict_52 ⟨Nat.le_of_ble_eq_true rfl, Nat.le_of_ble_eq_true rfl⟩) hS (fun S_7 t9 H locs ht9 hS_7 hW hS => ?_)
      have hW : cW G S_7 H := ht9 ▸ hW
      refine lv_goto (tgt := 76) hx hb dX2_listPlaceConflict_55 (by decide) ?_
      exact W.vret hx hb hr (fun t9 ht9 _ => ⟨⟨S_7, rfl, (by unfold pcS; rw [show pcK S n = 4 by unfold pcK; rw [if_neg (by rw [c_17]; decide), if_pos c_46], if_neg (by decide)]; exact hS_7), (show cW G S_7 t9.heap by rw [ht9]; exact hW)⟩, hS.F ht9⟩) hS.2.2 dX2_listPlaceConflict_76
  · refine lv_aload_n hx hb dX2_listPlaceConflict_20 rfl (lv_at hl 2 rfl) ?_
    refine lv_iload_n hx hb dX2_listPlaceConflict_21 rfl (lv_at hl 3 rfl) ?_
    refine lv_iconst (v := nI 3) hx hb dX2_listPlaceConflict_22 (by decide) ?_
    refine ev_v (va_runV (As := [.int (nI n), .int (nI 3)]) (rest := []) ⟨hx, hb, hml, hown, hts⟩ (k_X0_list l G S s.heap.size (i := i) (by omega) (c0 := c0) hc (by omega) (nI n) (nI 3)) (cwV 2 hts gX2_listPlaceConflict_X0_list rfl rfl rfl (by decide +kernel) ⟨Nat.le_of_ble_eq_true rfl, Nat.le_of_ble_eq_true rfl⟩) ⟨cQ_blind, c_recv hW hK (k := (129 + 5 * i)) (ci := 0) (cw_P (i := i) (by omega)) rfl, cQ_at hW hK hS⟩ rfl rfl hl.1 rfl (lv_room (Nat.le_of_ble_eq_true rfl)) dX2_listPlaceConflict_23 ⟨Nat.le_of_ble_eq_true rfl, Nat.le_of_ble_eq_true rfl⟩) hS (fun S_8 t9 H locs ht9 hS_8 hW hS => ?_)
    have hW : cW G S_8 H := ht9 ▸ hW
    refine lv_goto (tgt := 76) hx hb dX2_listPlaceConflict_26 (by decide) ?_
    exact W.vret hx hb hr (fun t9 ht9 _ => ⟨⟨S_8, rfl, (by unfold pcS; rw [show pcK S n = 3 by unfold pcK; rw [if_pos c_17], if_neg (by decide)]; exact hS_8), (show cW G S_8 t9.heap by rw [ht9]; exact hW)⟩, hS.F ht9⟩) hS.2.2 dX2_listPlaceConflict_76

set_option maxHeartbeats 4000000 in
set_option maxRecDepth 100000 in
theorem k_X2_listConflicts (l : Launch) (G : GT) (S : SS) (sz : Nat) {nc : Nat} (hnc : S.1 139 7 = nI nc) (h16 : nc ≤ 16) (h1n : 1 ≤ nc) {i : Nat} (hi : i < 2) : Met l yX2_listConflicts wsX2_listConflicts ({ frames := 5, cells := 0, slots := 0, locals := 112 } : Room) (va_Pc [.ref (gA G 139), .ref (gA G (129 + 5 * i))] (fun U => U.heap.size = sz ∧ cP G S U)) (va_Qv (fun S' => S' = (lcG i (nc - 1) 1 (s1 S (129 + 5 * i) 9 (nI 0), 0)).1 ∧ S'.1 (129 + 5 * i) 9 = nI (lcG i (nc - 1) 1 (s1 S (129 + 5 * i) 9 (nI 0), 0)).2 ∧ (lcG i (nc - 1) 1 (s1 S (129 + 5 * i) 9 (nI 0), 0)).2 ≤ 45) (cB G) (gF G sz)) 0 0 (gF G sz) := by
  refine Met.ofW (cc := cX2_listConflicts) (maxL := 4) (ret := none) (by decide) rfl ?_
  intro p e s m args below meth c s₁ B hml hv
  obtain ⟨rfl, hsz, hW, hK⟩ := hv
  subst hsz
  have hx := B.exec
  have hb := B.bytes
  have hr := B.returns
  have hts := atoms_spec (ws := wsX2_listConflicts) B.pre
  have hown : s.vm.findClass RX2 = some m.cls := findClass_of_methodNamed B.named
  have hlocks := B.notSynchronized
  have hS : va_S (gF G s.heap.size) s.heap s.heap [] := va_S.rf
  have inX0 : ∀ w ∈ u_ws RX0 TX0 10, w ∈ wsX2_listConflicts := by decide +kernel
  have inX2 : ∀ w ∈ u_ws RX2 TX2 10, w ∈ wsX2_listConflicts := by decide +kernel
  have hl := lv_entry ([.ref (gA G 139), .ref (gA G (129 + 5 * i))]) (n := 4) (Nat.le_of_ble_eq_true rfl)
  rw [lg_entry_eq]
  generalize (lg_sl ([.ref (gA G 139), .ref (gA G (129 + 5 * i))]) ++ List.replicate (4 - (lg_sl ([.ref (gA G 139), .ref (gA G (129 + 5 * i))])).length) Slot.unset).toArray = ls at hl ⊢
  have hl : lv_has ls 4 [(0, .ref (gA G 139)), (1, .ref (gA G (129 + 5 * i)))] := hl
  have LP : ∀ (k : Nat) (n : Nat) (Q : SS) (c0 : Nat) (H : Heap) (locs : List Loc), (cW G Q H) → (va_S (gF G s.heap.size) s.heap H locs) → (Q.1 139 7 = nI nc) → (Q.1 (129 + 5 * i) 9 = nI c0) → (c0 + 3 ≤ 3 * n) → (1 ≤ n) → (n + k = nc) → ∀ (ls : Array Slot), lv_has ls 4 [(0, .ref (gA G 139)), (1, .ref (gA G (129 + 5 * i))), (2, .int (nI n))] → W p l e (headSpec wsX2_listConflicts ({ frames := 5, cells := 0, slots := 0, locals := 112 } : Room)).room s m ([.ref (gA G 139), .ref (gA G (129 + 5 * i))] : List Value).toArray below meth c H locs 0 0 (MQ below (va_Qv (fun S' => S' = (lcG i k n (Q, c0)).1 ∧ S'.1 (129 + 5 * i) 9 = nI (lcG i k n (Q, c0)).2 ∧ (lcG i k n (Q, c0)).2 ≤ 45) (cB G) (gF G s.heap.size)) ([.ref (gA G 139), .ref (gA G (129 + 5 * i))] : List Value).toArray s 0 0 (gF G s.heap.size)) (F0 m 7 ls []) := by
    intro k
    induction k with
    | zero =>
      intro n Q c0 H locs hW hS hq hc hcb h1 h2 ls hl
      refine lv_iload_n hx hb dX2_listConflicts_7 rfl (lv_at hl 2 rfl) ?_
      refine lv_aload_n hx hb dX2_listConflicts_8 rfl (lv_at hl 0 rfl) ?_
      refine va_get (D := gD G) (ci := 2) (v := .int (nI nc)) (C := RX2) (T := TX2) (N := 10) hx hb hts inX2 hown hK.1 hW 139 cw_O rfl 7 (by decide) (hts (.fieldLink RX2 40 "MarkedTrees" "nodeCount" "I") (by decide +kernel)) (fun _ h9 => h9) (by rw [← hq]; rfl) dX2_listConflicts_9 ?_
      refine nv_icmp_ge (tgt := 90) hx hb (by omega) (by omega) dX2_listConflicts_12 (by decide) (fun c_12 => ?_) (fun c_12 => ?_)
      · exact W.vret hx hb hr (fun t9 ht9 _ => ⟨⟨Q, rfl, ⟨rfl, hc, by show c0 ≤ 45; omega⟩, (show cW G Q t9.heap by rw [ht9]; exact hW)⟩, hS.F ht9⟩) hS.2.2 dX2_listConflicts_90
      · exact absurd c_12 (by omega)
    | succ k ih =>
      intro n Q c0 H locs hW hS hq hc hcb h1 h2 ls hl
      refine lv_iload_n hx hb dX2_listConflicts_7 rfl (lv_at hl 2 rfl) ?_
      refine lv_aload_n hx hb dX2_listConflicts_8 rfl (lv_at hl 0 rfl) ?_
      refine va_get (D := gD G) (ci := 2) (v := .int (nI nc)) (C := RX2) (T := TX2) (N := 10) hx hb hts inX2 hown hK.1 hW 139 cw_O rfl 7 (by decide) (hts (.fieldLink RX2 40 "MarkedTrees" "nodeCount" "I") (by decide +kernel)) (fun _ h9 => h9) (by rw [← hq]; rfl) dX2_listConflicts_9 ?_
      refine nv_icmp_ge (tgt := 90) hx hb (by omega) (by omega) dX2_listConflicts_12 (by decide) (fun c_12 => ?_) (fun c_12 => ?_)
      · exact absurd c_12 (by omega)
      · refine lv_aload_n hx hb dX2_listConflicts_15 rfl (lv_at hl 0 rfl) ?_
        refine va_get (D := gD G) (ci := 2) (v := .ref (gA G (3 * 40))) (C := RX2) (T := TX2) (N := 10) hx hb hts inX2 hown hK.1 hW 139 cw_O rfl 8 (by decide) (hts (.fieldLink RX2 44 "MarkedTrees" "merged" "LMarkedTrees$Tree;") (by decide +kernel)) (fun _ h9 => h9) rfl dX2_listConflicts_16 ?_
        refine lv_iload_n hx hb dX2_listConflicts_19 rfl (lv_at hl 2 rfl) ?_
        refine pv_i (va_runV (As := [.int (nI n)]) (rest := []) ⟨hx, hb, hml, hown, hts⟩ (k_X1_isAlive l G Q (t := 40) (by omega) (nI n)) (cwV 1 hts gX2_listConflicts_X1_isAlive rfl rfl rfl (by decide +kernel) ⟨Nat.le_of_ble_eq_true rfl, Nat.le_of_ble_eq_true rfl⟩) ⟨cP_blind, c_recv hW hK (k := (3 * 40)) (ci := 1) (cw_T (t := 40) (by omega)) rfl, cP_at hW hK hS⟩ rfl rfl hl.1 rfl (lv_room (Nat.le_of_ble_eq_true rfl)) dX2_listConflicts_20 ⟨Nat.le_of_ble_eq_true rfl, Nat.le_of_ble_eq_true rfl⟩) (fun r_1 hr_1 => ?_)
        rw [aliveB_nI Q 40 (by omega)] at hr_1
        subst hr_1
        refine bv_if_ne (b := ti (Q.1 (3 * 40) 0) n) (tgt := 29) hx hb dX2_listConflicts_23 (by decide) (fun c_23 => ?_) (fun c_23 => ?_)
        · refine lv_iconst (v := nI 0) hx hb dX2_listConflicts_29 (by decide) ?_
          refine lv_istore_n (lv' := [(3, .int (nI 0)), (0, .ref (gA G 139)), (1, .ref (gA G (129 + 5 * i))), (2, .int (nI n))]) hx hb dX2_listConflicts_30 rfl hl (by decide) rfl (fun ls hl => ?_)
          have LQ : ∀ (k2 : Nat) (w : Nat) (Q2 : SS) (c2 : Nat) (H : Heap) (locs : List Loc), (cW G Q2 H) → (va_S (gF G s.heap.size) s.heap H locs) → (Q2.1 139 7 = nI nc) → (Q2.1 (129 + 5 * i) 9 = nI c2) → (c2 + 3 ≤ 3 * n + w) → (1 ≤ w → tb (Q2.2 139 9) (n * 3) = false → c2 + 3 + 1 ≤ 3 * n + w) → (w + k2 = 3) → ∀ (ls : Array Slot), lv_has ls 4 [(0, .ref (gA G 139)), (1, .ref (gA G (129 + 5 * i))), (2, .int (nI n)), (3, .int (nI w))] → W p l e (headSpec wsX2_listConflicts ({ frames := 5, cells := 0, slots := 0, locals := 112 } : Room)).room s m ([.ref (gA G 139), .ref (gA G (129 + 5 * i))] : List Value).toArray below meth c H locs 0 0 (MQ below (va_Qv (fun S' => S' = (lcG i k (n + 1) (lcF i n (lcW i n k2 w (Q2, c2)))).1 ∧ S'.1 (129 + 5 * i) 9 = nI (lcG i k (n + 1) (lcF i n (lcW i n k2 w (Q2, c2)))).2 ∧ (lcG i k (n + 1) (lcF i n (lcW i n k2 w (Q2, c2)))).2 ≤ 45) (cB G) (gF G s.heap.size)) ([.ref (gA G 139), .ref (gA G (129 + 5 * i))] : List Value).toArray s 0 0 (gF G s.heap.size)) (F0 m 31 ls []) := by
            intro k2
            induction k2 with
            | zero =>
              intro w Q2 c2 H locs hW hS hq2 hc2 hcb2 hz h3 ls hl
              refine lv_iload_n hx hb dX2_listConflicts_31 rfl (lv_at hl 3 rfl) ?_
              refine lv_iconst (v := nI 3) hx hb dX2_listConflicts_32 (by decide) ?_
              refine nv_icmp_ge (tgt := 63) hx hb (by omega) (by omega) dX2_listConflicts_33 (by decide) (fun c_33 => ?_) (fun c_33 => ?_)
              · refine lv_aload_n hx hb dX2_listConflicts_63 rfl (lv_at hl 0 rfl) ?_
                refine va_get (D := gD G) (ci := 2) (v := .long (Q2.2 139 9)) (C := RX2) (T := TX2) (N := 10) hx hb hts inX2 hown hK.1 hW 139 cw_O rfl 9 (by decide) (hts (.fieldLink RX2 301 "MarkedTrees" "undecided" "J") (by decide +kernel)) (fun _ h9 => h9) rfl dX2_listConflicts_64 ?_
                refine lv_iload_n hx hb dX2_listConflicts_67 rfl (lv_at hl 2 rfl) ?_
                refine lv_iconst (v := nI 0) hx hb dX2_listConflicts_68 (by decide) ?_
                refine pv_i (va_runS (As := [.int (nI n), .int (nI 0)]) (rest := [.long (Q2.2 139 9)]) ⟨hx, hb, hml, hown, hts⟩ (k_X2_slot l n 0) (va_cwS 2 hts gX2_listConflicts_X2_slot rfl rfl rfl (by decide +kernel) ⟨Nat.le_of_ble_eq_true rfl, Nat.le_of_ble_eq_true rfl⟩) ⟨(fun _ _ _ _ h => h), fun U _ _ => ⟨rfl, trivial⟩⟩ rfl rfl hl.1 rfl (lv_room (Nat.le_of_ble_eq_true rfl)) dX2_listConflicts_69 ⟨Nat.le_of_ble_eq_true rfl, Nat.le_of_ble_eq_true rfl⟩) (fun r_2 hr_2 => ?_)
                have hr_2 : r_2 = nI (n * 3) := hr_2
                subst hr_2
                refine pv_i (va_runS (As := [.long (Q2.2 139 9), .int (nI (n * 3))]) (rest := []) ⟨hx, hb, hml, hown, hts⟩ (k_X2_isIn l (Q2.2 139 9) (k := n * 3) (by omega)) (va_cwS 2 hts gX2_listConflicts_X2_isIn rfl rfl rfl (by decide +kernel) ⟨Nat.le_of_ble_eq_true rfl, Nat.le_of_ble_eq_true rfl⟩) ⟨(fun _ _ _ _ h => h), fun U _ _ => ⟨rfl, trivial⟩⟩ rfl rfl hl.1 rfl (lv_room (Nat.le_of_ble_eq_true rfl)) dX2_listConflicts_72 ⟨Nat.le_of_ble_eq_true rfl, Nat.le_of_ble_eq_true rfl⟩) (fun r_3 hr_3 => ?_)
                have hr_3 : r_3 = bI (tb (Q2.2 139 9) (n * 3)) := hr_3
                subst hr_3
                refine bv_if_ne (b := tb (Q2.2 139 9) (n * 3)) (tgt := 84) hx hb dX2_listConflicts_75 (by decide) (fun c_75 => ?_) (fun c_75 => ?_)
                · refine lv_iinc (v := nI (n + 1)) (lv' := [(2, .int (nI (n + 1))), (0, .ref (gA G 139)), (1, .ref (gA G (129 + 5 * i))), (3, .int (nI w))]) hx hb dX2_listConflicts_84 hl (k := 2) rfl (nI_add n 1) (by decide) rfl (fun ls hl => ?_)
                  refine lv_goto (tgt := 7) hx hb dX2_listConflicts_87 (by decide) ?_
                  have E : lcF i n (lcW i n 0 w (Q2, c2)) = (Q2, c2) := by rw [lcW, lcF, if_pos c_75]
                  rw [E]
                  exact ih (n + 1) Q2 c2 H locs hW hS hq2 hc2 (by omega) (by omega) (by omega) ls (lv_sub hl [1, 2, 0] rfl)
                · refine lv_aload_n hx hb dX2_listConflicts_78 rfl (lv_at hl 0 rfl) ?_
                  refine lv_aload_n hx hb dX2_listConflicts_79 rfl (lv_at hl 1 rfl) ?_
                  refine lv_iload_n hx hb dX2_listConflicts_80 rfl (lv_at hl 2 rfl) ?_
                  refine ev_v (va_runV (As := [.ref (gA G (129 + 5 * i)), .int (nI n)]) (rest := []) ⟨hx, hb, hml, hown, hts⟩ (k_X2_listPlaceConflict l G Q2 H.size (i := i) (by omega) (c0 := c2) hc2 (by omega) (n := n) (by omega)) (cwV 2 hts gX2_listConflicts_X2_listPlaceConflict rfl rfl rfl (by decide +kernel) ⟨Nat.le_of_ble_eq_true rfl, Nat.le_of_ble_eq_true rfl⟩) ⟨cQ_blind, c_recv hW hK (k := 139) (ci := 2) cw_O rfl, cQ_at hW hK hS⟩ rfl rfl hl.1 rfl (lv_room (Nat.le_of_ble_eq_true rfl)) dX2_listConflicts_81 ⟨Nat.le_of_ble_eq_true rfl, Nat.le_of_ble_eq_true rfl⟩) hS (fun S_4 t9 H locs ht9 hS_4 hW hS => ?_)
                  have hW : cW G S_4 H := ht9 ▸ hW
                  refine lv_iinc (v := nI (n + 1)) (lv' := [(2, .int (nI (n + 1))), (0, .ref (gA G 139)), (1, .ref (gA G (129 + 5 * i))), (3, .int (nI w))]) hx hb dX2_listConflicts_84 hl (k := 2) rfl (nI_add n 1) (by decide) rfl (fun ls hl => ?_)
                  refine lv_goto (tgt := 7) hx hb dX2_listConflicts_87 (by decide) ?_
                  have E : lcF i n (lcW i n 0 w (Q2, c2)) = (S_4, c2 + (if pcK Q2 n = 0 then 0 else 1)) := by rw [lcW, lcF, if_neg (by rw [c_75]; exact Bool.false_ne_true), hS_4]
                  rw [E]
                  have hz9 := hz (by omega) c_75
                  have hle : (if pcK Q2 n = 0 then 0 else 1) ≤ 1 := by split <;> omega
                  exact ih (n + 1) S_4 _ H locs hW hS (by rw [hS_4, pcS_F _ _ _ _ (by omega) (by omega) (by omega)]; exact hq2) (by rw [hS_4]; exact pcS_9 hc2) (by omega) (by omega) (by omega) ls (lv_sub hl [1, 2, 0] rfl)
              · exact absurd c_33 (by omega)
            | succ k2 ih2 =>
              intro w Q2 c2 H locs hW hS hq2 hc2 hcb2 hz h3 ls hl
              refine lv_iload_n hx hb dX2_listConflicts_31 rfl (lv_at hl 3 rfl) ?_
              refine lv_iconst (v := nI 3) hx hb dX2_listConflicts_32 (by decide) ?_
              refine nv_icmp_ge (tgt := 63) hx hb (by omega) (by omega) dX2_listConflicts_33 (by decide) (fun c_33 => ?_) (fun c_33 => ?_)
              · exact absurd c_33 (by omega)
              · refine lv_aload_n hx hb dX2_listConflicts_36 rfl (lv_at hl 0 rfl) ?_
                refine va_get (D := gD G) (ci := 2) (v := .long (Q2.2 139 9)) (C := RX2) (T := TX2) (N := 10) hx hb hts inX2 hown hK.1 hW 139 cw_O rfl 9 (by decide) (hts (.fieldLink RX2 301 "MarkedTrees" "undecided" "J") (by decide +kernel)) (fun _ h9 => h9) rfl dX2_listConflicts_37 ?_
                refine lv_iload_n hx hb dX2_listConflicts_40 rfl (lv_at hl 2 rfl) ?_
                refine lv_iload_n hx hb dX2_listConflicts_41 rfl (lv_at hl 3 rfl) ?_
                refine pv_i (va_runS (As := [.int (nI n), .int (nI w)]) (rest := [.long (Q2.2 139 9)]) ⟨hx, hb, hml, hown, hts⟩ (k_X2_slot l n w) (va_cwS 2 hts gX2_listConflicts_X2_slot rfl rfl rfl (by decide +kernel) ⟨Nat.le_of_ble_eq_true rfl, Nat.le_of_ble_eq_true rfl⟩) ⟨(fun _ _ _ _ h => h), fun U _ _ => ⟨rfl, trivial⟩⟩ rfl rfl hl.1 rfl (lv_room (Nat.le_of_ble_eq_true rfl)) dX2_listConflicts_42 ⟨Nat.le_of_ble_eq_true rfl, Nat.le_of_ble_eq_true rfl⟩) (fun r_5 hr_5 => ?_)
                have hr_5 : r_5 = nI (n * 3 + w) := hr_5
                subst hr_5
                refine pv_i (va_runS (As := [.long (Q2.2 139 9), .int (nI (n * 3 + w))]) (rest := []) ⟨hx, hb, hml, hown, hts⟩ (k_X2_isIn l (Q2.2 139 9) (k := n * 3 + w) (by omega)) (va_cwS 2 hts gX2_listConflicts_X2_isIn rfl rfl rfl (by decide +kernel) ⟨Nat.le_of_ble_eq_true rfl, Nat.le_of_ble_eq_true rfl⟩) ⟨(fun _ _ _ _ h => h), fun U _ _ => ⟨rfl, trivial⟩⟩ rfl rfl hl.1 rfl (lv_room (Nat.le_of_ble_eq_true rfl)) dX2_listConflicts_45 ⟨Nat.le_of_ble_eq_true rfl, Nat.le_of_ble_eq_true rfl⟩) (fun r_6 hr_6 => ?_)
                have hr_6 : r_6 = bI (tb (Q2.2 139 9) (n * 3 + w)) := hr_6
                subst hr_6
                refine bv_if_eq (b := tb (Q2.2 139 9) (n * 3 + w)) (tgt := 57) hx hb dX2_listConflicts_48 (by decide) (fun c_48 => ?_) (fun c_48 => ?_)
                · refine lv_iinc (v := nI (w + 1)) (lv' := [(3, .int (nI (w + 1))), (0, .ref (gA G 139)), (1, .ref (gA G (129 + 5 * i))), (2, .int (nI n))]) hx hb dX2_listConflicts_57 hl (k := 3) rfl (nI_add w 1) (by decide) rfl (fun ls hl => ?_)
                  refine lv_goto (tgt := 31) hx hb dX2_listConflicts_60 (by decide) ?_
                  have E : lcW i n (k2 + 1) w (Q2, c2) = lcW i n k2 (w + 1) (Q2, c2) := by rw [lcW, if_neg (by rw [c_48]; exact Bool.false_ne_true)]
                  rw [E]
                  exact ih2 (w + 1) Q2 c2 H locs hW hS hq2 hc2 (by omega) (fun h5 h6 => by rcases Nat.eq_zero_or_pos w with z | z; subst z; omega; have := hz z h6; omega) (by omega) ls (lv_sub hl [1, 2, 3, 0] rfl)
                · refine lv_aload_n hx hb dX2_listConflicts_51 rfl (lv_at hl 1 rfl) ?_
                  refine lv_iload_n hx hb dX2_listConflicts_52 rfl (lv_at hl 2 rfl) ?_
                  refine lv_iload_n hx hb dX2_listConflicts_53 rfl (lv_at hl 3 rfl) ?_
                  refine ev_v (va_runV (As := [.int (nI n), .int (nI w)]) (rest := []) ⟨hx, hb, hml, hown, hts⟩ (k_X0_list l G Q2 H.size (i := i) (by omega) (c0 := c2) hc2 (by omega) (nI n) (nI w)) (cwV 2 hts gX2_listConflicts_X0_list rfl rfl rfl (by decide +kernel) ⟨Nat.le_of_ble_eq_true rfl, Nat.le_of_ble_eq_true rfl⟩) ⟨cQ_blind, c_recv hW hK (k := (129 + 5 * i)) (ci := 0) (cw_P (i := i) (by omega)) rfl, cQ_at hW hK hS⟩ rfl rfl hl.1 rfl (lv_room (Nat.le_of_ble_eq_true rfl)) dX2_listConflicts_54 ⟨Nat.le_of_ble_eq_true rfl, Nat.le_of_ble_eq_true rfl⟩) hS (fun S_7 t9 H locs ht9 hS_7 hW hS => ?_)
                  have hW : cW G S_7 H := ht9 ▸ hW
                  refine lv_iinc (v := nI (w + 1)) (lv' := [(3, .int (nI (w + 1))), (0, .ref (gA G 139)), (1, .ref (gA G (129 + 5 * i))), (2, .int (nI n))]) hx hb dX2_listConflicts_57 hl (k := 3) rfl (nI_add w 1) (by decide) rfl (fun ls hl => ?_)
                  refine lv_goto (tgt := 31) hx hb dX2_listConflicts_60 (by decide) ?_
                  have e9 : S_7 = liS Q2 i c2 (nI n) (nI w) := hS_7
                  have E : lcW i n (k2 + 1) w (Q2, c2) = lcW i n k2 (w + 1) (S_7, c2 + 1) := by rw [lcW, if_pos c_48, e9]
                  rw [E]
                  exact ih2 (w + 1) S_7 (c2 + 1) H locs hW hS (by rw [e9, liS_F _ _ _ _ _ (by omega) (by omega) (by omega)]; exact hq2) (by rw [e9]; exact liS_9 _ _ _ _ _) (by omega) (fun h5 h6 => by rw [e9, liS_2] at h6; rcases Nat.eq_zero_or_pos w with z | z; subst z; exact absurd (c_48.symm.trans h6) (by decide); have := hz z h6; omega) (by omega) ls (lv_sub hl [1, 2, 3, 0] rfl)
          have E : lcG i (k + 1) n (Q, c0) = lcG i k (n + 1) (lcF i n (lcW i n 3 0 (Q, c0))) := by rw [lcG, lcI, if_pos c_23]
          rw [E]
          exact LQ 3 0 Q c0 H locs hW hS hq hc (by omega) (fun h5 => absurd h5 (by omega)) (by omega) ls (lv_sub hl [1, 2, 3, 0] rfl)
        · refine lv_goto (tgt := 84) hx hb dX2_listConflicts_26 (by decide) ?_
          refine lv_iinc (v := nI (n + 1)) (lv' := [(2, .int (nI (n + 1))), (0, .ref (gA G 139)), (1, .ref (gA G (129 + 5 * i)))]) hx hb dX2_listConflicts_84 hl (k := 2) rfl (nI_add n 1) (by decide) rfl (fun ls hl => ?_)
          refine lv_goto (tgt := 7) hx hb dX2_listConflicts_87 (by decide) ?_
          have E : lcG i (k + 1) n (Q, c0) = lcG i k (n + 1) (Q, c0) := by rw [lcG, lcI, if_neg (by rw [c_23]; exact Bool.false_ne_true)]
          rw [E]
          exact ih (n + 1) Q c0 H locs hW hS hq hc (by omega) (by omega) (by omega) ls (lv_sub hl [1, 2, 0] rfl)
  refine lv_aload_n hx hb dX2_listConflicts_0 rfl (lv_at hl 1 rfl) ?_
  refine lv_iconst (v := nI 0) hx hb dX2_listConflicts_1 (by decide) ?_
  refine va_put (D := gD G) (ci := 0) (v := .int (nI 0)) (ty := .int) (C := RX0) (T := TX0) (N := 10) hx hb hts inX0 tyX0 tyX0_ok nmX0 hown hK.1 hW (wl_D hK.2.1) hS (129 + 5 * i) (cw_P (i := i) (by omega)) rfl 9 (by decide) (hts (.fieldLink RX2 187 "MarkedTrees$Peer" "listed" "I") (by decide +kernel)) (fun _ h9 => h9) rfl (by decide +kernel) rfl rfl (Nat.le_of_ble_eq_true rfl) dX2_listConflicts_2 (fun H locs hW _ hS => ?_)
  have hW : cW G (s1 S (129 + 5 * i) 9 (nI 0)) H := cp_P_9 (by omega) hW
  obtain ⟨S_8, eS_8⟩ : ∃ z, z = s1 S (129 + 5 * i) 9 (nI 0) := ⟨_, rfl⟩
  rw [← eS_8] at hW
  refine lv_iconst (v := nI 1) hx hb dX2_listConflicts_5 (by decide) ?_
  refine lv_istore_n (lv' := [(2, .int (nI 1)), (0, .ref (gA G 139)), (1, .ref (gA G (129 + 5 * i)))]) hx hb dX2_listConflicts_6 rfl hl (by decide) rfl (fun ls hl => ?_)
  rw [← eS_8]
  exact LP (nc - 1) 1 S_8 0 H locs hW hS (by rw [eS_8, s1_ne _ _ _ _ (by omega)]; exact hnc) (by rw [eS_8, s1_eq]; exact pk_us) (by omega) (by omega) (by omega) ls (lv_sub hl [1, 2, 0] rfl)
