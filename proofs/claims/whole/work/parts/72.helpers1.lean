theorem vp_updL0 (f : Nat → Int64) (x : Int64) : vp_updL f 0 x 0 = x := if_pos rfl

def l2 (c : Nat) : Nat := if c = 3 then 2 else c

set_option maxHeartbeats 4000000 in
set_option maxRecDepth 100000 in
theorem k_L_open (l : Launch) (hlt : l.stackTraces = false) (G : GT) (S : SS) (sz o : Nat) (f : Nat → Int64) (ho : oOk G o) {rc : Nat} (hrc : S.1 139 4 = nI rc) (h40 : rc ≤ 40) (x y : Int32) : Met l yL_open wsL_open ({ frames := 9, cells := 8, slots := 48, locals := 148 } : Room) (va_Pc [.ref (gA G 139), .int x, .int y] (fun U => U.heap.size = sz ∧ hP G S o f U)) (va_Qi (fun r u => r = nI (cdOpen S rc x y) ∧ u.1 = (if cdOpen S rc x y = 0 then s1 (cfS S (41 + cn x) (cn y)) (129 + 5 * cn x) 4 (nI (cn y)) else S)) (hB G o) (gO G o sz)) 8 48 (gO G o sz) := by
  refine va_MetW (cc := cL_open) (maxL := 4) (ret := (some .int)) (hh := [(0, 6, 9, 13)]) (by decide) rfl ?_
  intro p e s m args below meth c s₁ B hml hv
  obtain ⟨rfl, hsz, hW, hK, hO, hn⟩ := hv
  subst hsz
  have hx := B.exec
  have hb := B.bytes
  have hr := B.returns
  have hts := atoms_spec (ws := wsL_open) B.pre
  have htab := vx_table (x := yL_open) B (hts (.codeWith yL_open cL_open 4 (some .int) [(0, 6, 9, 13)]) List.mem_cons_self)
  have hown : s.vm.findClass RL = some m.cls := findClass_of_methodNamed B.named
  have hS : va_S (gF G s.heap.size) s.heap s.heap [] := va_S.rf
  have hl := lv_entry ([.ref (gA G 139), .int x, .int y]) (n := 4) (Nat.le_of_ble_eq_true rfl)
  rw [lg_entry_eq]
  generalize (lg_sl ([.ref (gA G 139), .int x, .int y]) ++ List.replicate (4 - (lg_sl ([.ref (gA G 139), .int x, .int y])).length) Slot.unset).toArray = ls at hl ⊢
  have hl : lv_has ls 4 [(0, .ref (gA G 139)), (1, .int x), (2, .int y)] := hl
  refine lv_aload_n hx hb dL_open_0 rfl (lv_at hl 0 rfl) ?_
  refine lv_iload_n hx hb dL_open_1 rfl (lv_at hl 1 rfl) ?_
  refine lv_iload_n hx hb dL_open_2 rfl (lv_at hl 2 rfl) ?_
  refine hv_v hW hO ho (vx_runV (As := [.int x, .int y]) (rest := []) ⟨hx, hb, hml, hown, hts⟩ (k_X2_open l hlt G S s.heap.size hrc h40 x y) (cwV 2 hts gL_open_X2_open rfl rfl rfl (by decide +kernel) ⟨Nat.le_of_ble_eq_true rfl, Nat.le_of_ble_eq_true rfl⟩) ⟨cQ_blind, c_recv hW hK (k := 139) (ci := 2) cw_O rfl, cQ_at hW hK hS⟩ rfl rfl hl.1 rfl (lv_room (Nat.le_of_ble_eq_true rfl)) dL_open_3 ⟨Nat.le_of_ble_eq_true rfl, Nat.le_of_ble_eq_true rfl⟩) (fun E ce q H locs hE hW hO hS hce hcv hcl => ?_) (fun u9 H locs hu hW hO hS => ?_)
  · have hcd : cdOpen S rc x y = 0 ∨ cdOpen S rc x y = 1 := by unfold cdOpen; (repeat' split) <;> simp
    rcases hcd with h9 | h9
    · exact absurd h9 hE.2
    · have hE9 : E = eN := hE.1.trans (by rw [h9]; rfl)
      subst hE9
      refine hc_N hown htab (by decide) (hts (.classLink RL 13 eN) (by decide +kernel)) hK hce hcv hcl ?_
      refine lv_astore_n (lv' := [(3, .ref q), (0, .ref (gA G 139)), (1, .int x), (2, .int y)]) hx hb dL_open_9 rfl hl (by decide) rfl (fun ls hl => ?_)
      refine lv_iconst (v := nI 1) hx hb dL_open_10 (by decide) ?_
      exact W.iret (v := nI 1) hx hb hr (fun t9 ht9 _ => ⟨⟨_, (S, f), rfl, ⟨(by simp [h9, l2]), (by rw [if_neg (by rw [h9]; decide)])⟩, ⟨show cW G S t9.heap by rw [ht9]; exact hW, show oW G o f t9.heap by rw [ht9]; exact hO⟩⟩, hS.F ht9⟩) hS.2.2 dL_open_11
  · have hS := hS
    obtain ⟨h9, hu⟩ := hu
    refine lv_goto (tgt := 12) hx hb dL_open_6 (by decide) ?_
    refine lv_iconst (v := nI 0) hx hb dL_open_12 (by decide) ?_
    exact W.iret (v := nI 0) hx hb hr (fun t9 ht9 _ => ⟨⟨_, (u9, f), rfl, ⟨(by simp [h9, l2]), (by rw [if_pos h9]; exact hu)⟩, ⟨show cW G u9 t9.heap by rw [ht9]; exact hW, show oW G o f t9.heap by rw [ht9]; exact hO⟩⟩, hS.F ht9⟩) hS.2.2 dL_open_13

set_option maxHeartbeats 4000000 in
set_option maxRecDepth 100000 in
theorem k_L_add (l : Launch) (hlt : l.stackTraces = false) (G : GT) (S : SS) (sz o : Nat) (f : Nat → Int64) (ho : oOk G o) {nc : Nat} (hnc : S.1 139 7 = nI nc) (h16 : nc ≤ 16) (x y z : Int32) (db : Bool) : Met l yL_add wsL_add ({ frames := 9, cells := 8, slots := 48, locals := 152 } : Room) (va_Pc [.ref (gA G 139), .int x, .int y, .int z, .int (bI db), .ref o] (fun U => U.heap.size = sz ∧ hP G S o f U)) (va_Qi (fun r u => r = nI (cdAdd S nc x y z) ∧ u.1 = (if cdAdd S nc x y z = 0 then doAdd S nc (cn x) (cn y) (cn z) db else S) ∧ (cdAdd S nc x y z = 0 → u.2 0 = (nI nc).toInt64)) (hB G o) (gO G o sz)) 8 48 (gO G o sz) := by
  refine va_MetW (cc := cL_add) (maxL := 7) (ret := (some .int)) (hh := [(0, 14, 17, 13), (0, 14, 21, 19), (0, 14, 25, 21)]) (by decide) rfl ?_
  intro p e s m args below meth c s₁ B hml hv
  obtain ⟨rfl, hsz, hW, hK, hO, hn⟩ := hv
  subst hsz
  have hx := B.exec
  have hb := B.bytes
  have hr := B.returns
  have hts := atoms_spec (ws := wsL_add) B.pre
  have htab := vx_table (x := yL_add) B (hts (.codeWith yL_add cL_add 7 (some .int) [(0, 14, 17, 13), (0, 14, 21, 19), (0, 14, 25, 21)]) List.mem_cons_self)
  have hown : s.vm.findClass RL = some m.cls := findClass_of_methodNamed B.named
  have hS : va_S (gF G s.heap.size) s.heap s.heap [] := va_S.rf
  have hl := lv_entry ([.ref (gA G 139), .int x, .int y, .int z, .int (bI db), .ref o]) (n := 7) (Nat.le_of_ble_eq_true rfl)
  rw [lg_entry_eq]
  generalize (lg_sl ([.ref (gA G 139), .int x, .int y, .int z, .int (bI db), .ref o]) ++ List.replicate (7 - (lg_sl ([.ref (gA G 139), .int x, .int y, .int z, .int (bI db), .ref o])).length) Slot.unset).toArray = ls at hl ⊢
  have hl : lv_has ls 7 [(0, .ref (gA G 139)), (1, .int x), (2, .int y), (3, .int z), (4, .int (bI db)), (5, .ref o)] := hl
  refine lv_aload hx hb dL_add_0 (lv_at hl 5 rfl) ?_
  refine lv_iconst (v := nI 0) hx hb dL_add_2 (by decide) ?_
  refine lv_aload_n hx hb dL_add_3 rfl (lv_at hl 0 rfl) ?_
  refine lv_iload_n hx hb dL_add_4 rfl (lv_at hl 1 rfl) ?_
  refine lv_iload_n hx hb dL_add_5 rfl (lv_at hl 2 rfl) ?_
  refine lv_iload_n hx hb dL_add_6 rfl (lv_at hl 3 rfl) ?_
  refine lv_iload hx hb dL_add_7 (lv_at hl 4 rfl) ?_
  refine hv_i hW hO ho (vx_runV (As := [.int x, .int y, .int z, .int (bI db)]) (rest := [.int (nI 0), .ref o]) ⟨hx, hb, hml, hown, hts⟩ (k_X2_add l hlt G S s.heap.size hnc h16 x y z db) (cwV 4 hts gL_add_X2_add rfl rfl rfl (by decide +kernel) ⟨Nat.le_of_ble_eq_true rfl, Nat.le_of_ble_eq_true rfl⟩) ⟨cQ_blind, c_recv hW hK (k := 139) (ci := 2) cw_O rfl, cQ_at hW hK hS⟩ rfl rfl hl.1 rfl (lv_room (Nat.le_of_ble_eq_true rfl)) dL_add_9 ⟨Nat.le_of_ble_eq_true rfl, Nat.le_of_ble_eq_true rfl⟩) (fun E ce q H locs hE hW hO hS hce hcv hcl => ?_) (fun r9 u9 H locs hu hW hO hS => ?_)
  · have hcd : cdAdd S nc x y z = 0 ∨ cdAdd S nc x y z = 1 ∨ cdAdd S nc x y z = 2 ∨ cdAdd S nc x y z = 3 := by unfold cdAdd; (repeat' split) <;> simp
    rcases hcd with h9 | h9 | h9 | h9
    · exact absurd h9 hE.2
    · have hE9 : E = eN := hE.1.trans (by rw [h9]; rfl)
      subst hE9
      refine hc_N hown htab (by decide) (hts (.classLink RL 13 eN) (by decide +kernel)) hK hce hcv hcl ?_
      refine lv_astore (lv' := [(6, .ref q), (0, .ref (gA G 139)), (1, .int x), (2, .int y), (3, .int z), (4, .int (bI db)), (5, .ref o)]) hx hb dL_add_17 hl (by decide) rfl (fun ls hl => ?_)
      refine lv_iconst (v := nI 1) hx hb dL_add_19 (by decide) ?_
      exact W.iret (v := nI 1) hx hb hr (fun t9 ht9 _ => ⟨⟨_, (S, f), rfl, ⟨(by simp [h9, l2]), (by rw [if_neg (by rw [h9]; decide)]), fun z => absurd (h9.symm.trans z) (by decide)⟩, ⟨show cW G S t9.heap by rw [ht9]; exact hW, show oW G o f t9.heap by rw [ht9]; exact hO⟩⟩, hS.F ht9⟩) hS.2.2 dL_add_20
    · have hE9 : E = eA := hE.1.trans (by rw [h9]; rfl)
      subst hE9
      refine hc_A hown htab (by decide) (hts (.classLink RL 13 eN) (by decide +kernel)) (hts (.classLink RL 19 eA) (by decide +kernel)) hK hn hce hcv hcl ?_
      refine lv_astore (lv' := [(6, .ref q), (0, .ref (gA G 139)), (1, .int x), (2, .int y), (3, .int z), (4, .int (bI db)), (5, .ref o)]) hx hb dL_add_21 hl (by decide) rfl (fun ls hl => ?_)
      refine lv_iconst (v := nI 2) hx hb dL_add_23 (by decide) ?_
      exact W.iret (v := nI 2) hx hb hr (fun t9 ht9 _ => ⟨⟨_, (S, f), rfl, ⟨(by simp [h9, l2]), (by rw [if_neg (by rw [h9]; decide)]), fun z => absurd (h9.symm.trans z) (by decide)⟩, ⟨show cW G S t9.heap by rw [ht9]; exact hW, show oW G o f t9.heap by rw [ht9]; exact hO⟩⟩, hS.F ht9⟩) hS.2.2 dL_add_24
    · have hE9 : E = eS := hE.1.trans (by rw [h9]; rfl)
      subst hE9
      refine hc_S hown htab (by decide) (hts (.classLink RL 13 eN) (by decide +kernel)) (hts (.classLink RL 19 eA) (by decide +kernel)) (hts (.classLink RL 21 eS) (by decide +kernel)) hK hn hce hcv hcl ?_
      refine lv_astore (lv' := [(6, .ref q), (0, .ref (gA G 139)), (1, .int x), (2, .int y), (3, .int z), (4, .int (bI db)), (5, .ref o)]) hx hb dL_add_25 hl (by decide) rfl (fun ls hl => ?_)
      refine lv_iconst (v := nI 3) hx hb dL_add_27 (by decide) ?_
      exact W.iret (v := nI 3) hx hb hr (fun t9 ht9 _ => ⟨⟨_, (S, f), rfl, ⟨(by simp [h9, l2]), (by rw [if_neg (by rw [h9]; decide)]), fun z => absurd (h9.symm.trans z) (by decide)⟩, ⟨show cW G S t9.heap by rw [ht9]; exact hW, show oW G o f t9.heap by rw [ht9]; exact hO⟩⟩, hS.F ht9⟩) hS.2.2 dL_add_28
  · have hS := hS
    obtain ⟨h9, hr9, hu⟩ := hu
    subst hr9
    refine lv_i2l (v := (nI nc).toInt64) hx hb dL_add_12 rfl ?_
    refine hv_out hx hb hK hW hO ho hS dL_add_13 (fun H locs hW hO hS => ?_)
    refine lv_goto (tgt := 29) hx hb dL_add_14 (by decide) ?_
    refine lv_iconst (v := nI 0) hx hb dL_add_29 (by decide) ?_
    exact W.iret (v := nI 0) hx hb hr (fun t9 ht9 _ => ⟨⟨_, (u9, (vp_updL f 0 ((nI nc).toInt64))), rfl, ⟨(by simp [h9, l2]), (by rw [if_pos h9]; exact hu), fun _ => vp_updL0 f _⟩, ⟨show cW G u9 t9.heap by rw [ht9]; exact hW, show oW G o (vp_updL f 0 ((nI nc).toInt64)) t9.heap by rw [ht9]; exact hO⟩⟩, hS.F ht9⟩) hS.2.2 dL_add_30

set_option maxHeartbeats 4000000 in
set_option maxRecDepth 100000 in
theorem k_L_drop (l : Launch) (hlt : l.stackTraces = false) (G : GT) (S : SS) (sz o : Nat) (f : Nat → Int64) (ho : oOk G o) (x y : Int32) : Met l yL_drop wsL_drop ({ frames := 9, cells := 8, slots := 48, locals := 148 } : Room) (va_Pc [.ref (gA G 139), .int x, .int y] (fun U => U.heap.size = sz ∧ hP G S o f U)) (va_Qi (fun r u => r = nI (cdDrop S x y) ∧ u.1 = (if cdDrop S x y = 0 then doDrop S (cn x) (cn y) else S)) (hB G o) (gO G o sz)) 8 48 (gO G o sz) := by
  refine va_MetW (cc := cL_drop) (maxL := 4) (ret := (some .int)) (hh := [(0, 6, 9, 13), (0, 6, 12, 19), (0, 6, 15, 21)]) (by decide) rfl ?_
  intro p e s m args below meth c s₁ B hml hv
  obtain ⟨rfl, hsz, hW, hK, hO, hn⟩ := hv
  subst hsz
  have hx := B.exec
  have hb := B.bytes
  have hr := B.returns
  have hts := atoms_spec (ws := wsL_drop) B.pre
  have htab := vx_table (x := yL_drop) B (hts (.codeWith yL_drop cL_drop 4 (some .int) [(0, 6, 9, 13), (0, 6, 12, 19), (0, 6, 15, 21)]) List.mem_cons_self)
  have hown : s.vm.findClass RL = some m.cls := findClass_of_methodNamed B.named
  have hS : va_S (gF G s.heap.size) s.heap s.heap [] := va_S.rf
  have hl := lv_entry ([.ref (gA G 139), .int x, .int y]) (n := 4) (Nat.le_of_ble_eq_true rfl)
  rw [lg_entry_eq]
  generalize (lg_sl ([.ref (gA G 139), .int x, .int y]) ++ List.replicate (4 - (lg_sl ([.ref (gA G 139), .int x, .int y])).length) Slot.unset).toArray = ls at hl ⊢
  have hl : lv_has ls 4 [(0, .ref (gA G 139)), (1, .int x), (2, .int y)] := hl
  refine lv_aload_n hx hb dL_drop_0 rfl (lv_at hl 0 rfl) ?_
  refine lv_iload_n hx hb dL_drop_1 rfl (lv_at hl 1 rfl) ?_
  refine lv_iload_n hx hb dL_drop_2 rfl (lv_at hl 2 rfl) ?_
  refine hv_v hW hO ho (vx_runV (As := [.int x, .int y]) (rest := []) ⟨hx, hb, hml, hown, hts⟩ (k_X2_drop l hlt G S s.heap.size x y) (cwV 2 hts gL_drop_X2_drop rfl rfl rfl (by decide +kernel) ⟨Nat.le_of_ble_eq_true rfl, Nat.le_of_ble_eq_true rfl⟩) ⟨cQ_blind, c_recv hW hK (k := 139) (ci := 2) cw_O rfl, cQ_at hW hK hS⟩ rfl rfl hl.1 rfl (lv_room (Nat.le_of_ble_eq_true rfl)) dL_drop_3 ⟨Nat.le_of_ble_eq_true rfl, Nat.le_of_ble_eq_true rfl⟩) (fun E ce q H locs hE hW hO hS hce hcv hcl => ?_) (fun u9 H locs hu hW hO hS => ?_)
  · have hcd : cdDrop S x y = 0 ∨ cdDrop S x y = 1 ∨ cdDrop S x y = 2 ∨ cdDrop S x y = 3 := by unfold cdDrop; (repeat' split) <;> simp
    rcases hcd with h9 | h9 | h9 | h9
    · exact absurd h9 hE.2
    · have hE9 : E = eN := hE.1.trans (by rw [h9]; rfl)
      subst hE9
      refine hc_N hown htab (by decide) (hts (.classLink RL 13 eN) (by decide +kernel)) hK hce hcv hcl ?_
      refine lv_astore_n (lv' := [(3, .ref q), (0, .ref (gA G 139)), (1, .int x), (2, .int y)]) hx hb dL_drop_9 rfl hl (by decide) rfl (fun ls hl => ?_)
      refine lv_iconst (v := nI 1) hx hb dL_drop_10 (by decide) ?_
      exact W.iret (v := nI 1) hx hb hr (fun t9 ht9 _ => ⟨⟨_, (S, f), rfl, ⟨(by simp [h9, l2]), (by rw [if_neg (by rw [h9]; decide)])⟩, ⟨show cW G S t9.heap by rw [ht9]; exact hW, show oW G o f t9.heap by rw [ht9]; exact hO⟩⟩, hS.F ht9⟩) hS.2.2 dL_drop_11
    · have hE9 : E = eA := hE.1.trans (by rw [h9]; rfl)
      subst hE9
      refine hc_A hown htab (by decide) (hts (.classLink RL 13 eN) (by decide +kernel)) (hts (.classLink RL 19 eA) (by decide +kernel)) hK hn hce hcv hcl ?_
      refine lv_astore_n (lv' := [(3, .ref q), (0, .ref (gA G 139)), (1, .int x), (2, .int y)]) hx hb dL_drop_12 rfl hl (by decide) rfl (fun ls hl => ?_)
      refine lv_iconst (v := nI 2) hx hb dL_drop_13 (by decide) ?_
      exact W.iret (v := nI 2) hx hb hr (fun t9 ht9 _ => ⟨⟨_, (S, f), rfl, ⟨(by simp [h9, l2]), (by rw [if_neg (by rw [h9]; decide)])⟩, ⟨show cW G S t9.heap by rw [ht9]; exact hW, show oW G o f t9.heap by rw [ht9]; exact hO⟩⟩, hS.F ht9⟩) hS.2.2 dL_drop_14
    · have hE9 : E = eS := hE.1.trans (by rw [h9]; rfl)
      subst hE9
      refine hc_S hown htab (by decide) (hts (.classLink RL 13 eN) (by decide +kernel)) (hts (.classLink RL 19 eA) (by decide +kernel)) (hts (.classLink RL 21 eS) (by decide +kernel)) hK hn hce hcv hcl ?_
      refine lv_astore_n (lv' := [(3, .ref q), (0, .ref (gA G 139)), (1, .int x), (2, .int y)]) hx hb dL_drop_15 rfl hl (by decide) rfl (fun ls hl => ?_)
      refine lv_iconst (v := nI 3) hx hb dL_drop_16 (by decide) ?_
      exact W.iret (v := nI 3) hx hb hr (fun t9 ht9 _ => ⟨⟨_, (S, f), rfl, ⟨(by simp [h9, l2]), (by rw [if_neg (by rw [h9]; decide)])⟩, ⟨show cW G S t9.heap by rw [ht9]; exact hW, show oW G o f t9.heap by rw [ht9]; exact hO⟩⟩, hS.F ht9⟩) hS.2.2 dL_drop_17
  · have hS := hS
    obtain ⟨h9, hu⟩ := hu
    refine lv_goto (tgt := 18) hx hb dL_drop_6 (by decide) ?_
    refine lv_iconst (v := nI 0) hx hb dL_drop_18 (by decide) ?_
    exact W.iret (v := nI 0) hx hb hr (fun t9 ht9 _ => ⟨⟨_, (u9, f), rfl, ⟨(by simp [h9, l2]), (by rw [if_pos h9]; exact hu)⟩, ⟨show cW G u9 t9.heap by rw [ht9]; exact hW, show oW G o f t9.heap by rw [ht9]; exact hO⟩⟩, hS.F ht9⟩) hS.2.2 dL_drop_19

set_option maxHeartbeats 4000000 in
set_option maxRecDepth 100000 in
theorem k_L_move (l : Launch) (hlt : l.stackTraces = false) (G : GT) (S : SS) (sz o : Nat) (f : Nat → Int64) (ho : oOk G o) (x y z w : Int32) : Met l yL_move wsL_move ({ frames := 9, cells := 8, slots := 48, locals := 152 } : Room) (va_Pc [.ref (gA G 139), .int x, .int y, .int z, .int w] (fun U => U.heap.size = sz ∧ hP G S o f U)) (va_Qi (fun r u => r = nI (cdMove S x y z w) ∧ u.1 = (if cdMove S x y z w = 0 then s1 S (3 * (41 + cn x) + 1) (cn y * 3 + 0) (nI (cn z * 10 + cn w)) else S)) (hB G o) (gO G o sz)) 8 48 (gO G o sz) := by
  refine va_MetW (cc := cL_move) (maxL := 6) (ret := (some .int)) (hh := [(0, 9, 12, 13), (0, 9, 16, 19), (0, 9, 20, 21)]) (by decide) rfl ?_
  intro p e s m args below meth c s₁ B hml hv
  obtain ⟨rfl, hsz, hW, hK, hO, hn⟩ := hv
  subst hsz
  have hx := B.exec
  have hb := B.bytes
  have hr := B.returns
  have hts := atoms_spec (ws := wsL_move) B.pre
  have htab := vx_table (x := yL_move) B (hts (.codeWith yL_move cL_move 6 (some .int) [(0, 9, 12, 13), (0, 9, 16, 19), (0, 9, 20, 21)]) List.mem_cons_self)
  have hown : s.vm.findClass RL = some m.cls := findClass_of_methodNamed B.named
  have hS : va_S (gF G s.heap.size) s.heap s.heap [] := va_S.rf
  have hl := lv_entry ([.ref (gA G 139), .int x, .int y, .int z, .int w]) (n := 6) (Nat.le_of_ble_eq_true rfl)
  rw [lg_entry_eq]
  generalize (lg_sl ([.ref (gA G 139), .int x, .int y, .int z, .int w]) ++ List.replicate (6 - (lg_sl ([.ref (gA G 139), .int x, .int y, .int z, .int w])).length) Slot.unset).toArray = ls at hl ⊢
  have hl : lv_has ls 6 [(0, .ref (gA G 139)), (1, .int x), (2, .int y), (3, .int z), (4, .int w)] := hl
  refine lv_aload_n hx hb dL_move_0 rfl (lv_at hl 0 rfl) ?_
  refine lv_iload_n hx hb dL_move_1 rfl (lv_at hl 1 rfl) ?_
  refine lv_iload_n hx hb dL_move_2 rfl (lv_at hl 2 rfl) ?_
  refine lv_iload_n hx hb dL_move_3 rfl (lv_at hl 3 rfl) ?_
  refine lv_iload hx hb dL_move_4 (lv_at hl 4 rfl) ?_
  refine hv_v hW hO ho (vx_runV (As := [.int x, .int y, .int z, .int w]) (rest := []) ⟨hx, hb, hml, hown, hts⟩ (k_X2_move l hlt G S s.heap.size x y z w) (cwV 4 hts gL_move_X2_move rfl rfl rfl (by decide +kernel) ⟨Nat.le_of_ble_eq_true rfl, Nat.le_of_ble_eq_true rfl⟩) ⟨cQ_blind, c_recv hW hK (k := 139) (ci := 2) cw_O rfl, cQ_at hW hK hS⟩ rfl rfl hl.1 rfl (lv_room (Nat.le_of_ble_eq_true rfl)) dL_move_6 ⟨Nat.le_of_ble_eq_true rfl, Nat.le_of_ble_eq_true rfl⟩) (fun E ce q H locs hE hW hO hS hce hcv hcl => ?_) (fun u9 H locs hu hW hO hS => ?_)
  · have hcd : cdMove S x y z w = 0 ∨ cdMove S x y z w = 1 ∨ cdMove S x y z w = 2 ∨ cdMove S x y z w = 3 := by unfold cdMove; (repeat' split) <;> simp
    rcases hcd with h9 | h9 | h9 | h9
    · exact absurd h9 hE.2
    · have hE9 : E = eN := hE.1.trans (by rw [h9]; rfl)
      subst hE9
      refine hc_N hown htab (by decide) (hts (.classLink RL 13 eN) (by decide +kernel)) hK hce hcv hcl ?_
      refine lv_astore (lv' := [(5, .ref q), (0, .ref (gA G 139)), (1, .int x), (2, .int y), (3, .int z), (4, .int w)]) hx hb dL_move_12 hl (by decide) rfl (fun ls hl => ?_)
      refine lv_iconst (v := nI 1) hx hb dL_move_14 (by decide) ?_
      exact W.iret (v := nI 1) hx hb hr (fun t9 ht9 _ => ⟨⟨_, (S, f), rfl, ⟨(by simp [h9, l2]), (by rw [if_neg (by rw [h9]; decide)])⟩, ⟨show cW G S t9.heap by rw [ht9]; exact hW, show oW G o f t9.heap by rw [ht9]; exact hO⟩⟩, hS.F ht9⟩) hS.2.2 dL_move_15
    · have hE9 : E = eA := hE.1.trans (by rw [h9]; rfl)
      subst hE9
      refine hc_A hown htab (by decide) (hts (.classLink RL 13 eN) (by decide +kernel)) (hts (.classLink RL 19 eA) (by decide +kernel)) hK hn hce hcv hcl ?_
      refine lv_astore (lv' := [(5, .ref q), (0, .ref (gA G 139)), (1, .int x), (2, .int y), (3, .int z), (4, .int w)]) hx hb dL_move_16 hl (by decide) rfl (fun ls hl => ?_)
      refine lv_iconst (v := nI 2) hx hb dL_move_18 (by decide) ?_
      exact W.iret (v := nI 2) hx hb hr (fun t9 ht9 _ => ⟨⟨_, (S, f), rfl, ⟨(by simp [h9, l2]), (by rw [if_neg (by rw [h9]; decide)])⟩, ⟨show cW G S t9.heap by rw [ht9]; exact hW, show oW G o f t9.heap by rw [ht9]; exact hO⟩⟩, hS.F ht9⟩) hS.2.2 dL_move_19
    · have hE9 : E = eS := hE.1.trans (by rw [h9]; rfl)
      subst hE9
      refine hc_S hown htab (by decide) (hts (.classLink RL 13 eN) (by decide +kernel)) (hts (.classLink RL 19 eA) (by decide +kernel)) (hts (.classLink RL 21 eS) (by decide +kernel)) hK hn hce hcv hcl ?_
      refine lv_astore (lv' := [(5, .ref q), (0, .ref (gA G 139)), (1, .int x), (2, .int y), (3, .int z), (4, .int w)]) hx hb dL_move_20 hl (by decide) rfl (fun ls hl => ?_)
      refine lv_iconst (v := nI 3) hx hb dL_move_22 (by decide) ?_
      exact W.iret (v := nI 3) hx hb hr (fun t9 ht9 _ => ⟨⟨_, (S, f), rfl, ⟨(by simp [h9, l2]), (by rw [if_neg (by rw [h9]; decide)])⟩, ⟨show cW G S t9.heap by rw [ht9]; exact hW, show oW G o f t9.heap by rw [ht9]; exact hO⟩⟩, hS.F ht9⟩) hS.2.2 dL_move_23
  · have hS := hS
    obtain ⟨h9, hu⟩ := hu
    refine lv_goto (tgt := 24) hx hb dL_move_9 (by decide) ?_
    refine lv_iconst (v := nI 0) hx hb dL_move_24 (by decide) ?_
    exact W.iret (v := nI 0) hx hb hr (fun t9 ht9 _ => ⟨⟨_, (u9, f), rfl, ⟨(by simp [h9, l2]), (by rw [if_pos h9]; exact hu)⟩, ⟨show cW G u9 t9.heap by rw [ht9]; exact hW, show oW G o f t9.heap by rw [ht9]; exact hO⟩⟩, hS.F ht9⟩) hS.2.2 dL_move_25

set_option maxHeartbeats 4000000 in
set_option maxRecDepth 100000 in
theorem k_L_write (l : Launch) (hlt : l.stackTraces = false) (G : GT) (S : SS) (sz o : Nat) (f : Nat → Int64) (ho : oOk G o) (x y z v : Int32) : Met l yL_write wsL_write ({ frames := 9, cells := 8, slots := 48, locals := 150 } : Room) (va_Pc [.ref (gA G 139), .int x, .int y, .int z, .int v] (fun U => U.heap.size = sz ∧ hP G S o f U)) (va_Qi (fun r u => r = nI (cdWrite S x y z) ∧ u.1 = (if cdWrite S x y z = 0 then s1 S (3 * (41 + cn x) + 1) (cn y * 3 + cn z) v else S)) (hB G o) (gO G o sz)) 8 48 (gO G o sz) := by
  refine va_MetW (cc := cL_write) (maxL := 6) (ret := (some .int)) (hh := [(0, 9, 12, 13), (0, 9, 16, 19), (0, 9, 20, 21)]) (by decide) rfl ?_
  intro p e s m args below meth c s₁ B hml hv
  obtain ⟨rfl, hsz, hW, hK, hO, hn⟩ := hv
  subst hsz
  have hx := B.exec
  have hb := B.bytes
  have hr := B.returns
  have hts := atoms_spec (ws := wsL_write) B.pre
  have htab := vx_table (x := yL_write) B (hts (.codeWith yL_write cL_write 6 (some .int) [(0, 9, 12, 13), (0, 9, 16, 19), (0, 9, 20, 21)]) List.mem_cons_self)
  have hown : s.vm.findClass RL = some m.cls := findClass_of_methodNamed B.named
  have hS : va_S (gF G s.heap.size) s.heap s.heap [] := va_S.rf
  have hl := lv_entry ([.ref (gA G 139), .int x, .int y, .int z, .int v]) (n := 6) (Nat.le_of_ble_eq_true rfl)
  rw [lg_entry_eq]
  generalize (lg_sl ([.ref (gA G 139), .int x, .int y, .int z, .int v]) ++ List.replicate (6 - (lg_sl ([.ref (gA G 139), .int x, .int y, .int z, .int v])).length) Slot.unset).toArray = ls at hl ⊢
  have hl : lv_has ls 6 [(0, .ref (gA G 139)), (1, .int x), (2, .int y), (3, .int z), (4, .int v)] := hl
  refine lv_aload_n hx hb dL_write_0 rfl (lv_at hl 0 rfl) ?_
  refine lv_iload_n hx hb dL_write_1 rfl (lv_at hl 1 rfl) ?_
  refine lv_iload_n hx hb dL_write_2 rfl (lv_at hl 2 rfl) ?_
  refine lv_iload_n hx hb dL_write_3 rfl (lv_at hl 3 rfl) ?_
  refine lv_iload hx hb dL_write_4 (lv_at hl 4 rfl) ?_
  refine hv_v hW hO ho (vx_runV (As := [.int x, .int y, .int z, .int v]) (rest := []) ⟨hx, hb, hml, hown, hts⟩ (k_X2_write l hlt G S s.heap.size x y z v) (cwV 4 hts gL_write_X2_write rfl rfl rfl (by decide +kernel) ⟨Nat.le_of_ble_eq_true rfl, Nat.le_of_ble_eq_true rfl⟩) ⟨cQ_blind, c_recv hW hK (k := 139) (ci := 2) cw_O rfl, cQ_at hW hK hS⟩ rfl rfl hl.1 rfl (lv_room (Nat.le_of_ble_eq_true rfl)) dL_write_6 ⟨Nat.le_of_ble_eq_true rfl, Nat.le_of_ble_eq_true rfl⟩) (fun E ce q H locs hE hW hO hS hce hcv hcl => ?_) (fun u9 H locs hu hW hO hS => ?_)
  · have hcd : cdWrite S x y z = 0 ∨ cdWrite S x y z = 1 ∨ cdWrite S x y z = 2 ∨ cdWrite S x y z = 3 := by unfold cdWrite; (repeat' split) <;> simp
    rcases hcd with h9 | h9 | h9 | h9
    · exact absurd h9 hE.2
    · have hE9 : E = eN := hE.1.trans (by rw [h9]; rfl)
      subst hE9
      refine hc_N hown htab (by decide) (hts (.classLink RL 13 eN) (by decide +kernel)) hK hce hcv hcl ?_
      refine lv_astore (lv' := [(5, .ref q), (0, .ref (gA G 139)), (1, .int x), (2, .int y), (3, .int z), (4, .int v)]) hx hb dL_write_12 hl (by decide) rfl (fun ls hl => ?_)
      refine lv_iconst (v := nI 1) hx hb dL_write_14 (by decide) ?_
      exact W.iret (v := nI 1) hx hb hr (fun t9 ht9 _ => ⟨⟨_, (S, f), rfl, ⟨(by simp [h9, l2]), (by rw [if_neg (by rw [h9]; decide)])⟩, ⟨show cW G S t9.heap by rw [ht9]; exact hW, show oW G o f t9.heap by rw [ht9]; exact hO⟩⟩, hS.F ht9⟩) hS.2.2 dL_write_15
    · have hE9 : E = eA := hE.1.trans (by rw [h9]; rfl)
      subst hE9
      refine hc_A hown htab (by decide) (hts (.classLink RL 13 eN) (by decide +kernel)) (hts (.classLink RL 19 eA) (by decide +kernel)) hK hn hce hcv hcl ?_
      refine lv_astore (lv' := [(5, .ref q), (0, .ref (gA G 139)), (1, .int x), (2, .int y), (3, .int z), (4, .int v)]) hx hb dL_write_16 hl (by decide) rfl (fun ls hl => ?_)
      refine lv_iconst (v := nI 2) hx hb dL_write_18 (by decide) ?_
      exact W.iret (v := nI 2) hx hb hr (fun t9 ht9 _ => ⟨⟨_, (S, f), rfl, ⟨(by simp [h9, l2]), (by rw [if_neg (by rw [h9]; decide)])⟩, ⟨show cW G S t9.heap by rw [ht9]; exact hW, show oW G o f t9.heap by rw [ht9]; exact hO⟩⟩, hS.F ht9⟩) hS.2.2 dL_write_19
    · have hE9 : E = eS := hE.1.trans (by rw [h9]; rfl)
      subst hE9
      refine hc_S hown htab (by decide) (hts (.classLink RL 13 eN) (by decide +kernel)) (hts (.classLink RL 19 eA) (by decide +kernel)) (hts (.classLink RL 21 eS) (by decide +kernel)) hK hn hce hcv hcl ?_
      refine lv_astore (lv' := [(5, .ref q), (0, .ref (gA G 139)), (1, .int x), (2, .int y), (3, .int z), (4, .int v)]) hx hb dL_write_20 hl (by decide) rfl (fun ls hl => ?_)
      refine lv_iconst (v := nI 3) hx hb dL_write_22 (by decide) ?_
      exact W.iret (v := nI 3) hx hb hr (fun t9 ht9 _ => ⟨⟨_, (S, f), rfl, ⟨(by simp [h9, l2]), (by rw [if_neg (by rw [h9]; decide)])⟩, ⟨show cW G S t9.heap by rw [ht9]; exact hW, show oW G o f t9.heap by rw [ht9]; exact hO⟩⟩, hS.F ht9⟩) hS.2.2 dL_write_23
  · have hS := hS
    obtain ⟨h9, hu⟩ := hu
    refine lv_goto (tgt := 24) hx hb dL_write_9 (by decide) ?_
    refine lv_iconst (v := nI 0) hx hb dL_write_24 (by decide) ?_
    exact W.iret (v := nI 0) hx hb hr (fun t9 ht9 _ => ⟨⟨_, (u9, f), rfl, ⟨(by simp [h9, l2]), (by rw [if_pos h9]; exact hu)⟩, ⟨show cW G u9 t9.heap by rw [ht9]; exact hW, show oW G o f t9.heap by rw [ht9]; exact hO⟩⟩, hS.F ht9⟩) hS.2.2 dL_write_25

set_option maxHeartbeats 4000000 in
set_option maxRecDepth 100000 in
theorem k_L_commit (l : Launch) (hlt : l.stackTraces = false) (G : GT) (S : SS) (sz o : Nat) (f : Nat → Int64) (ho : oOk G o) {rc : Nat} (hrc : S.1 139 4 = nI rc) (h40 : rc ≤ 40) {nc : Nat} (hnc : S.1 139 7 = nI nc) (h16 : nc ≤ 16) (h1n : 1 ≤ nc) (hbase : ∀ i, i < 2 → (¬ S.1 (129 + 5 * i) 4 = -1) → ∃ b, b < 40 ∧ S.1 (129 + 5 * i) 4 = nI b) (x : Int32) : Met l yL_commit wsL_commit ({ frames := 8, cells := 8, slots := 48, locals := 130 } : Room) (va_Pc [.ref (gA G 139), .int x, .ref o] (fun U => U.heap.size = sz ∧ hP G S o f U)) (va_Qi (fun r u => r = nI (l2 (cdCommit S rc x)) ∧ u.1 = (if cdCommit S rc x = 0 then doCommit S rc nc (cn x) (cn (S.1 (129 + 5 * cn x) 4)) else S) ∧ (cdCommit S rc x = 0 → u.2 0 = (nI rc).toInt64)) (hB G o) (gO G o sz)) 8 48 (gO G o sz) := by
  refine va_MetW (cc := cL_commit) (maxL := 4) (ret := (some .int)) (hh := [(0, 9, 12, 13), (0, 9, 15, 21)]) (by decide) rfl ?_
  intro p e s m args below meth c s₁ B hml hv
  obtain ⟨rfl, hsz, hW, hK, hO, hn⟩ := hv
  subst hsz
  have hx := B.exec
  have hb := B.bytes
  have hr := B.returns
  have hts := atoms_spec (ws := wsL_commit) B.pre
  have htab := vx_table (x := yL_commit) B (hts (.codeWith yL_commit cL_commit 4 (some .int) [(0, 9, 12, 13), (0, 9, 15, 21)]) List.mem_cons_self)
  have hown : s.vm.findClass RL = some m.cls := findClass_of_methodNamed B.named
  have hS : va_S (gF G s.heap.size) s.heap s.heap [] := va_S.rf
  have hl := lv_entry ([.ref (gA G 139), .int x, .ref o]) (n := 4) (Nat.le_of_ble_eq_true rfl)
  rw [lg_entry_eq]
  generalize (lg_sl ([.ref (gA G 139), .int x, .ref o]) ++ List.replicate (4 - (lg_sl ([.ref (gA G 139), .int x, .ref o])).length) Slot.unset).toArray = ls at hl ⊢
  have hl : lv_has ls 4 [(0, .ref (gA G 139)), (1, .int x), (2, .ref o)] := hl
  refine lv_aload_n hx hb dL_commit_0 rfl (lv_at hl 2 rfl) ?_
  refine lv_iconst (v := nI 0) hx hb dL_commit_1 (by decide) ?_
  refine lv_aload_n hx hb dL_commit_2 rfl (lv_at hl 0 rfl) ?_
  refine lv_iload_n hx hb dL_commit_3 rfl (lv_at hl 1 rfl) ?_
  refine hv_i hW hO ho (vx_runV (As := [.int x]) (rest := [.int (nI 0), .ref o]) ⟨hx, hb, hml, hown, hts⟩ (k_X2_commit l hlt G S s.heap.size hrc h40 hnc h16 h1n hbase x) (cwV 1 hts gL_commit_X2_commit rfl rfl rfl (by decide +kernel) ⟨Nat.le_of_ble_eq_true rfl, Nat.le_of_ble_eq_true rfl⟩) ⟨cQ_blind, c_recv hW hK (k := 139) (ci := 2) cw_O rfl, cQ_at hW hK hS⟩ rfl rfl hl.1 rfl (lv_room (Nat.le_of_ble_eq_true rfl)) dL_commit_4 ⟨Nat.le_of_ble_eq_true rfl, Nat.le_of_ble_eq_true rfl⟩) (fun E ce q H locs hE hW hO hS hce hcv hcl => ?_) (fun r9 u9 H locs hu hW hO hS => ?_)
  · have hcd : cdCommit S rc x = 0 ∨ cdCommit S rc x = 1 ∨ cdCommit S rc x = 3 := by unfold cdCommit; (repeat' split) <;> simp
    rcases hcd with h9 | h9 | h9
    · exact absurd h9 hE.2
    · have hE9 : E = eN := hE.1.trans (by rw [h9]; rfl)
      subst hE9
      refine hc_N hown htab (by decide) (hts (.classLink RL 13 eN) (by decide +kernel)) hK hce hcv hcl ?_
      refine lv_astore_n (lv' := [(3, .ref q), (0, .ref (gA G 139)), (1, .int x), (2, .ref o)]) hx hb dL_commit_12 rfl hl (by decide) rfl (fun ls hl => ?_)
      refine lv_iconst (v := nI 1) hx hb dL_commit_13 (by decide) ?_
      exact W.iret (v := nI 1) hx hb hr (fun t9 ht9 _ => ⟨⟨_, (S, f), rfl, ⟨(by simp [h9, l2]), (by rw [if_neg (by rw [h9]; decide)]), fun z => absurd (h9.symm.trans z) (by decide)⟩, ⟨show cW G S t9.heap by rw [ht9]; exact hW, show oW G o f t9.heap by rw [ht9]; exact hO⟩⟩, hS.F ht9⟩) hS.2.2 dL_commit_14
    · have hE9 : E = eS := hE.1.trans (by rw [h9]; rfl)
      subst hE9
      refine hc_S2 hown htab (by decide) (hts (.classLink RL 13 eN) (by decide +kernel)) (hts (.classLink RL 21 eS) (by decide +kernel)) hK hn hce hcv hcl ?_
      refine lv_astore_n (lv' := [(3, .ref q), (0, .ref (gA G 139)), (1, .int x), (2, .ref o)]) hx hb dL_commit_15 rfl hl (by decide) rfl (fun ls hl => ?_)
      refine lv_iconst (v := nI 2) hx hb dL_commit_16 (by decide) ?_
      exact W.iret (v := nI 2) hx hb hr (fun t9 ht9 _ => ⟨⟨_, (S, f), rfl, ⟨(by simp [h9, l2]), (by rw [if_neg (by rw [h9]; decide)]), fun z => absurd (h9.symm.trans z) (by decide)⟩, ⟨show cW G S t9.heap by rw [ht9]; exact hW, show oW G o f t9.heap by rw [ht9]; exact hO⟩⟩, hS.F ht9⟩) hS.2.2 dL_commit_17
  · have hS := hS
    obtain ⟨h9, hr9, hu⟩ := hu
    subst hr9
    refine lv_i2l (v := (nI rc).toInt64) hx hb dL_commit_7 rfl ?_
    refine hv_out hx hb hK hW hO ho hS dL_commit_8 (fun H locs hW hO hS => ?_)
    refine lv_goto (tgt := 18) hx hb dL_commit_9 (by decide) ?_
    refine lv_iconst (v := nI 0) hx hb dL_commit_18 (by decide) ?_
    exact W.iret (v := nI 0) hx hb hr (fun t9 ht9 _ => ⟨⟨_, (u9, (vp_updL f 0 ((nI rc).toInt64))), rfl, ⟨(by simp [h9, l2]), (by rw [if_pos h9]; exact hu), fun _ => vp_updL0 f _⟩, ⟨show cW G u9 t9.heap by rw [ht9]; exact hW, show oW G o (vp_updL f 0 ((nI rc).toInt64)) t9.heap by rw [ht9]; exact hO⟩⟩, hS.F ht9⟩) hS.2.2 dL_commit_19

set_option maxHeartbeats 4000000 in
set_option maxRecDepth 100000 in
theorem k_L_decide (l : Launch) (hlt : l.stackTraces = false) (G : GT) (S : SS) (sz o : Nat) (f : Nat → Int64) (ho : oOk G o) {nc : Nat} (hnc : S.1 139 7 = nI nc) (h16 : nc ≤ 16) (x y z w : Int32) : Met l yL_decide wsL_decide ({ frames := 8, cells := 8, slots := 48, locals := 128 } : Room) (va_Pc [.ref (gA G 139), .int x, .int y, .int z, .int w] (fun U => U.heap.size = sz ∧ hP G S o f U)) (va_Qi (fun r u => r = nI (cdDecide nc x y z w) ∧ u.1 = (if cdDecide nc x y z w = 0 then s1 S (131 + 5 * cn x) (cn y * 3 + cn z) w else S)) (hB G o) (gO G o sz)) 8 48 (gO G o sz) := by
  refine va_MetW (cc := cL_decide) (maxL := 6) (ret := (some .int)) (hh := [(0, 9, 12, 13), (0, 9, 16, 19)]) (by decide) rfl ?_
  intro p e s m args below meth c s₁ B hml hv
  obtain ⟨rfl, hsz, hW, hK, hO, hn⟩ := hv
  subst hsz
  have hx := B.exec
  have hb := B.bytes
  have hr := B.returns
  have hts := atoms_spec (ws := wsL_decide) B.pre
  have htab := vx_table (x := yL_decide) B (hts (.codeWith yL_decide cL_decide 6 (some .int) [(0, 9, 12, 13), (0, 9, 16, 19)]) List.mem_cons_self)
  have hown : s.vm.findClass RL = some m.cls := findClass_of_methodNamed B.named
  have hS : va_S (gF G s.heap.size) s.heap s.heap [] := va_S.rf
  have hl := lv_entry ([.ref (gA G 139), .int x, .int y, .int z, .int w]) (n := 6) (Nat.le_of_ble_eq_true rfl)
  rw [lg_entry_eq]
  generalize (lg_sl ([.ref (gA G 139), .int x, .int y, .int z, .int w]) ++ List.replicate (6 - (lg_sl ([.ref (gA G 139), .int x, .int y, .int z, .int w])).length) Slot.unset).toArray = ls at hl ⊢
  have hl : lv_has ls 6 [(0, .ref (gA G 139)), (1, .int x), (2, .int y), (3, .int z), (4, .int w)] := hl
  refine lv_aload_n hx hb dL_decide_0 rfl (lv_at hl 0 rfl) ?_
  refine lv_iload_n hx hb dL_decide_1 rfl (lv_at hl 1 rfl) ?_
  refine lv_iload_n hx hb dL_decide_2 rfl (lv_at hl 2 rfl) ?_
  refine lv_iload_n hx hb dL_decide_3 rfl (lv_at hl 3 rfl) ?_
  refine lv_iload hx hb dL_decide_4 (lv_at hl 4 rfl) ?_
  refine hv_v hW hO ho (vx_runV (As := [.int x, .int y, .int z, .int w]) (rest := []) ⟨hx, hb, hml, hown, hts⟩ (k_X2_decide l hlt G S s.heap.size hnc h16 x y z w) (cwV 4 hts gL_decide_X2_decide rfl rfl rfl (by decide +kernel) ⟨Nat.le_of_ble_eq_true rfl, Nat.le_of_ble_eq_true rfl⟩) ⟨cQ_blind, c_recv hW hK (k := 139) (ci := 2) cw_O rfl, cQ_at hW hK hS⟩ rfl rfl hl.1 rfl (lv_room (Nat.le_of_ble_eq_true rfl)) dL_decide_6 ⟨Nat.le_of_ble_eq_true rfl, Nat.le_of_ble_eq_true rfl⟩) (fun E ce q H locs hE hW hO hS hce hcv hcl => ?_) (fun u9 H locs hu hW hO hS => ?_)
  · have hcd : cdDecide nc x y z w = 0 ∨ cdDecide nc x y z w = 1 ∨ cdDecide nc x y z w = 2 := by unfold cdDecide; (repeat' split) <;> simp
    rcases hcd with h9 | h9 | h9
    · exact absurd h9 hE.2
    · have hE9 : E = eN := hE.1.trans (by rw [h9]; rfl)
      subst hE9
      refine hc_N hown htab (by decide) (hts (.classLink RL 13 eN) (by decide +kernel)) hK hce hcv hcl ?_
      refine lv_astore (lv' := [(5, .ref q), (0, .ref (gA G 139)), (1, .int x), (2, .int y), (3, .int z), (4, .int w)]) hx hb dL_decide_12 hl (by decide) rfl (fun ls hl => ?_)
      refine lv_iconst (v := nI 1) hx hb dL_decide_14 (by decide) ?_
      exact W.iret (v := nI 1) hx hb hr (fun t9 ht9 _ => ⟨⟨_, (S, f), rfl, ⟨(by simp [h9, l2]), (by rw [if_neg (by rw [h9]; decide)])⟩, ⟨show cW G S t9.heap by rw [ht9]; exact hW, show oW G o f t9.heap by rw [ht9]; exact hO⟩⟩, hS.F ht9⟩) hS.2.2 dL_decide_15
    · have hE9 : E = eA := hE.1.trans (by rw [h9]; rfl)
      subst hE9
      refine hc_A hown htab (by decide) (hts (.classLink RL 13 eN) (by decide +kernel)) (hts (.classLink RL 19 eA) (by decide +kernel)) hK hn hce hcv hcl ?_
      refine lv_astore (lv' := [(5, .ref q), (0, .ref (gA G 139)), (1, .int x), (2, .int y), (3, .int z), (4, .int w)]) hx hb dL_decide_16 hl (by decide) rfl (fun ls hl => ?_)
      refine lv_iconst (v := nI 2) hx hb dL_decide_18 (by decide) ?_
      exact W.iret (v := nI 2) hx hb hr (fun t9 ht9 _ => ⟨⟨_, (S, f), rfl, ⟨(by simp [h9, l2]), (by rw [if_neg (by rw [h9]; decide)])⟩, ⟨show cW G S t9.heap by rw [ht9]; exact hW, show oW G o f t9.heap by rw [ht9]; exact hO⟩⟩, hS.F ht9⟩) hS.2.2 dL_decide_19
  · have hS := hS
    obtain ⟨h9, hu⟩ := hu
    refine lv_goto (tgt := 20) hx hb dL_decide_9 (by decide) ?_
    refine lv_iconst (v := nI 0) hx hb dL_decide_20 (by decide) ?_
    exact W.iret (v := nI 0) hx hb hr (fun t9 ht9 _ => ⟨⟨_, (u9, f), rfl, ⟨(by simp [h9, l2]), (by rw [if_pos h9]; exact hu)⟩, ⟨show cW G u9 t9.heap by rw [ht9]; exact hW, show oW G o f t9.heap by rw [ht9]; exact hO⟩⟩, hS.F ht9⟩) hS.2.2 dL_decide_21

set_option maxHeartbeats 4000000 in
set_option maxRecDepth 100000 in
theorem k_L_bury (l : Launch) (hlt : l.stackTraces = false) (G : GT) (S : SS) (sz o : Nat) (f : Nat → Int64) (ho : oOk G o) {nc : Nat} (hnc : S.1 139 7 = nI nc) (h16 : nc ≤ 16) (x y : Int32) (db : Bool) : Met l yL_bury wsL_bury ({ frames := 8, cells := 8, slots := 48, locals := 127 } : Room) (va_Pc [.ref (gA G 139), .int x, .int y, .int (bI db)] (fun U => U.heap.size = sz ∧ hP G S o f U)) (va_Qi (fun r u => r = nI (cdBury nc x y) ∧ u.1 = (if cdBury nc x y = 0 then doBury S (cn x) (cn y) db else S)) (hB G o) (gO G o sz)) 8 48 (gO G o sz) := by
  refine va_MetW (cc := cL_bury) (maxL := 5) (ret := (some .int)) (hh := [(0, 7, 10, 13), (0, 7, 14, 19)]) (by decide) rfl ?_
  intro p e s m args below meth c s₁ B hml hv
  obtain ⟨rfl, hsz, hW, hK, hO, hn⟩ := hv
  subst hsz
  have hx := B.exec
  have hb := B.bytes
  have hr := B.returns
  have hts := atoms_spec (ws := wsL_bury) B.pre
  have htab := vx_table (x := yL_bury) B (hts (.codeWith yL_bury cL_bury 5 (some .int) [(0, 7, 10, 13), (0, 7, 14, 19)]) List.mem_cons_self)
  have hown : s.vm.findClass RL = some m.cls := findClass_of_methodNamed B.named
  have hS : va_S (gF G s.heap.size) s.heap s.heap [] := va_S.rf
  have hl := lv_entry ([.ref (gA G 139), .int x, .int y, .int (bI db)]) (n := 5) (Nat.le_of_ble_eq_true rfl)
  rw [lg_entry_eq]
  generalize (lg_sl ([.ref (gA G 139), .int x, .int y, .int (bI db)]) ++ List.replicate (5 - (lg_sl ([.ref (gA G 139), .int x, .int y, .int (bI db)])).length) Slot.unset).toArray = ls at hl ⊢
  have hl : lv_has ls 5 [(0, .ref (gA G 139)), (1, .int x), (2, .int y), (3, .int (bI db))] := hl
  refine lv_aload_n hx hb dL_bury_0 rfl (lv_at hl 0 rfl) ?_
  refine lv_iload_n hx hb dL_bury_1 rfl (lv_at hl 1 rfl) ?_
  refine lv_iload_n hx hb dL_bury_2 rfl (lv_at hl 2 rfl) ?_
  refine lv_iload_n hx hb dL_bury_3 rfl (lv_at hl 3 rfl) ?_
  refine hv_v hW hO ho (vx_runV (As := [.int x, .int y, .int (bI db)]) (rest := []) ⟨hx, hb, hml, hown, hts⟩ (k_X2_bury l hlt G S s.heap.size hnc h16 x y db) (cwV 3 hts gL_bury_X2_bury rfl rfl rfl (by decide +kernel) ⟨Nat.le_of_ble_eq_true rfl, Nat.le_of_ble_eq_true rfl⟩) ⟨cQ_blind, c_recv hW hK (k := 139) (ci := 2) cw_O rfl, cQ_at hW hK hS⟩ rfl rfl hl.1 rfl (lv_room (Nat.le_of_ble_eq_true rfl)) dL_bury_4 ⟨Nat.le_of_ble_eq_true rfl, Nat.le_of_ble_eq_true rfl⟩) (fun E ce q H locs hE hW hO hS hce hcv hcl => ?_) (fun u9 H locs hu hW hO hS => ?_)
  · have hcd : cdBury nc x y = 0 ∨ cdBury nc x y = 1 ∨ cdBury nc x y = 2 := by unfold cdBury; (repeat' split) <;> simp
    rcases hcd with h9 | h9 | h9
    · exact absurd h9 hE.2
    · have hE9 : E = eN := hE.1.trans (by rw [h9]; rfl)
      subst hE9
      refine hc_N hown htab (by decide) (hts (.classLink RL 13 eN) (by decide +kernel)) hK hce hcv hcl ?_
      refine lv_astore (lv' := [(4, .ref q), (0, .ref (gA G 139)), (1, .int x), (2, .int y), (3, .int (bI db))]) hx hb dL_bury_10 hl (by decide) rfl (fun ls hl => ?_)
      refine lv_iconst (v := nI 1) hx hb dL_bury_12 (by decide) ?_
      exact W.iret (v := nI 1) hx hb hr (fun t9 ht9 _ => ⟨⟨_, (S, f), rfl, ⟨(by simp [h9, l2]), (by rw [if_neg (by rw [h9]; decide)])⟩, ⟨show cW G S t9.heap by rw [ht9]; exact hW, show oW G o f t9.heap by rw [ht9]; exact hO⟩⟩, hS.F ht9⟩) hS.2.2 dL_bury_13
    · have hE9 : E = eA := hE.1.trans (by rw [h9]; rfl)
      subst hE9
      refine hc_A hown htab (by decide) (hts (.classLink RL 13 eN) (by decide +kernel)) (hts (.classLink RL 19 eA) (by decide +kernel)) hK hn hce hcv hcl ?_
      refine lv_astore (lv' := [(4, .ref q), (0, .ref (gA G 139)), (1, .int x), (2, .int y), (3, .int (bI db))]) hx hb dL_bury_14 hl (by decide) rfl (fun ls hl => ?_)
      refine lv_iconst (v := nI 2) hx hb dL_bury_16 (by decide) ?_
      exact W.iret (v := nI 2) hx hb hr (fun t9 ht9 _ => ⟨⟨_, (S, f), rfl, ⟨(by simp [h9, l2]), (by rw [if_neg (by rw [h9]; decide)])⟩, ⟨show cW G S t9.heap by rw [ht9]; exact hW, show oW G o f t9.heap by rw [ht9]; exact hO⟩⟩, hS.F ht9⟩) hS.2.2 dL_bury_17
  · have hS := hS
    obtain ⟨h9, hu⟩ := hu
    refine lv_goto (tgt := 18) hx hb dL_bury_7 (by decide) ?_
    refine lv_iconst (v := nI 0) hx hb dL_bury_18 (by decide) ?_
    exact W.iret (v := nI 0) hx hb hr (fun t9 ht9 _ => ⟨⟨_, (u9, f), rfl, ⟨(by simp [h9, l2]), (by rw [if_pos h9]; exact hu)⟩, ⟨show cW G u9 t9.heap by rw [ht9]; exact hW, show oW G o f t9.heap by rw [ht9]; exact hO⟩⟩, hS.F ht9⟩) hS.2.2 dL_bury_19

set_option maxHeartbeats 4000000 in
set_option maxRecDepth 100000 in
theorem k_L_merge (l : Launch) (hlt : l.stackTraces = false) (G : GT) (S : SS) (sz o : Nat) (f : Nat → Int64) (ho : oOk G o) {rc : Nat} (hrc : S.1 139 4 = nI rc) (h40 : rc ≤ 40) {nc : Nat} (hnc : S.1 139 7 = nI nc) (h16 : nc ≤ 16) (h1n : 1 ≤ nc) {bi : Nat → Nat} (hbi : ∀ n, n < 16 → bi n < 40 ∧ S.1 142 n = nI (bi n)) (x y z : Int32) : Met l yL_merge wsL_merge ({ frames := 9, cells := 12, slots := 72, locals := 159 } : Room) (va_Pc [.ref (gA G 139), .int x, .int y, .int z, .ref o] (fun U => U.heap.size = sz ∧ hP G S o f U)) (va_Qi (fun r u => r = nI (cdMerge S rc x y z) ∧ u.1 = (if cdMerge S rc x y z = 0 then (doMerge S bi rc nc (cn x) (cn y) (cn z)).2 else S) ∧ (cdMerge S rc x y z = 0 → u.2 0 = ((doMerge S bi rc nc (cn x) (cn y) (cn z)).1).toInt64)) (hB G o) (gO G o sz)) 12 72 (gO G o sz) := by
  refine va_MetW (cc := cL_merge) (maxL := 6) (ret := (some .int)) (hh := [(0, 12, 15, 13), (0, 12, 19, 19), (0, 12, 23, 21)]) (by decide) rfl ?_
  intro p e s m args below meth c s₁ B hml hv
  obtain ⟨rfl, hsz, hW, hK, hO, hn⟩ := hv
  subst hsz
  have hx := B.exec
  have hb := B.bytes
  have hr := B.returns
  have hts := atoms_spec (ws := wsL_merge) B.pre
  have htab := vx_table (x := yL_merge) B (hts (.codeWith yL_merge cL_merge 6 (some .int) [(0, 12, 15, 13), (0, 12, 19, 19), (0, 12, 23, 21)]) List.mem_cons_self)
  have hown : s.vm.findClass RL = some m.cls := findClass_of_methodNamed B.named
  have hS : va_S (gF G s.heap.size) s.heap s.heap [] := va_S.rf
  have hl := lv_entry ([.ref (gA G 139), .int x, .int y, .int z, .ref o]) (n := 6) (Nat.le_of_ble_eq_true rfl)
  rw [lg_entry_eq]
  generalize (lg_sl ([.ref (gA G 139), .int x, .int y, .int z, .ref o]) ++ List.replicate (6 - (lg_sl ([.ref (gA G 139), .int x, .int y, .int z, .ref o])).length) Slot.unset).toArray = ls at hl ⊢
  have hl : lv_has ls 6 [(0, .ref (gA G 139)), (1, .int x), (2, .int y), (3, .int z), (4, .ref o)] := hl
  refine lv_aload hx hb dL_merge_0 (lv_at hl 4 rfl) ?_
  refine lv_iconst (v := nI 0) hx hb dL_merge_2 (by decide) ?_
  refine lv_aload_n hx hb dL_merge_3 rfl (lv_at hl 0 rfl) ?_
  refine lv_iload_n hx hb dL_merge_4 rfl (lv_at hl 1 rfl) ?_
  refine lv_iload_n hx hb dL_merge_5 rfl (lv_at hl 2 rfl) ?_
  refine lv_iload_n hx hb dL_merge_6 rfl (lv_at hl 3 rfl) ?_
  refine hv_i hW hO ho (vx_runV (As := [.int x, .int y, .int z]) (rest := [.int (nI 0), .ref o]) ⟨hx, hb, hml, hown, hts⟩ (k_X2_merge l hlt G S s.heap.size hrc h40 hnc h16 h1n hbi x y z) (cwV 3 hts gL_merge_X2_merge rfl rfl rfl (by decide +kernel) ⟨Nat.le_of_ble_eq_true rfl, Nat.le_of_ble_eq_true rfl⟩) ⟨cQ_blind, c_recv hW hK (k := 139) (ci := 2) cw_O rfl, cQ_at hW hK hS⟩ rfl rfl hl.1 rfl (lv_room (Nat.le_of_ble_eq_true rfl)) dL_merge_7 ⟨Nat.le_of_ble_eq_true rfl, Nat.le_of_ble_eq_true rfl⟩) (fun E ce q H locs hE hW hO hS hce hcv hcl => ?_) (fun r9 u9 H locs hu hW hO hS => ?_)
  · have hcd : cdMerge S rc x y z = 0 ∨ cdMerge S rc x y z = 1 ∨ cdMerge S rc x y z = 2 ∨ cdMerge S rc x y z = 3 := by unfold cdMerge; (repeat' split) <;> simp
    rcases hcd with h9 | h9 | h9 | h9
    · exact absurd h9 hE.2
    · have hE9 : E = eN := hE.1.trans (by rw [h9]; rfl)
      subst hE9
      refine hc_N hown htab (by decide) (hts (.classLink RL 13 eN) (by decide +kernel)) hK hce hcv hcl ?_
      refine lv_astore (lv' := [(5, .ref q), (0, .ref (gA G 139)), (1, .int x), (2, .int y), (3, .int z), (4, .ref o)]) hx hb dL_merge_15 hl (by decide) rfl (fun ls hl => ?_)
      refine lv_iconst (v := nI 1) hx hb dL_merge_17 (by decide) ?_
      exact W.iret (v := nI 1) hx hb hr (fun t9 ht9 _ => ⟨⟨_, (S, f), rfl, ⟨(by simp [h9, l2]), (by rw [if_neg (by rw [h9]; decide)]), fun z => absurd (h9.symm.trans z) (by decide)⟩, ⟨show cW G S t9.heap by rw [ht9]; exact hW, show oW G o f t9.heap by rw [ht9]; exact hO⟩⟩, hS.F ht9⟩) hS.2.2 dL_merge_18
    · have hE9 : E = eA := hE.1.trans (by rw [h9]; rfl)
      subst hE9
      refine hc_A hown htab (by decide) (hts (.classLink RL 13 eN) (by decide +kernel)) (hts (.classLink RL 19 eA) (by decide +kernel)) hK hn hce hcv hcl ?_
      refine lv_astore (lv' := [(5, .ref q), (0, .ref (gA G 139)), (1, .int x), (2, .int y), (3, .int z), (4, .ref o)]) hx hb dL_merge_19 hl (by decide) rfl (fun ls hl => ?_)
      refine lv_iconst (v := nI 2) hx hb dL_merge_21 (by decide) ?_
      exact W.iret (v := nI 2) hx hb hr (fun t9 ht9 _ => ⟨⟨_, (S, f), rfl, ⟨(by simp [h9, l2]), (by rw [if_neg (by rw [h9]; decide)]), fun z => absurd (h9.symm.trans z) (by decide)⟩, ⟨show cW G S t9.heap by rw [ht9]; exact hW, show oW G o f t9.heap by rw [ht9]; exact hO⟩⟩, hS.F ht9⟩) hS.2.2 dL_merge_22
    · have hE9 : E = eS := hE.1.trans (by rw [h9]; rfl)
      subst hE9
      refine hc_S hown htab (by decide) (hts (.classLink RL 13 eN) (by decide +kernel)) (hts (.classLink RL 19 eA) (by decide +kernel)) (hts (.classLink RL 21 eS) (by decide +kernel)) hK hn hce hcv hcl ?_
      refine lv_astore (lv' := [(5, .ref q), (0, .ref (gA G 139)), (1, .int x), (2, .int y), (3, .int z), (4, .ref o)]) hx hb dL_merge_23 hl (by decide) rfl (fun ls hl => ?_)
      refine lv_iconst (v := nI 3) hx hb dL_merge_25 (by decide) ?_
      exact W.iret (v := nI 3) hx hb hr (fun t9 ht9 _ => ⟨⟨_, (S, f), rfl, ⟨(by simp [h9, l2]), (by rw [if_neg (by rw [h9]; decide)]), fun z => absurd (h9.symm.trans z) (by decide)⟩, ⟨show cW G S t9.heap by rw [ht9]; exact hW, show oW G o f t9.heap by rw [ht9]; exact hO⟩⟩, hS.F ht9⟩) hS.2.2 dL_merge_26
  · have hS := hS
    obtain ⟨h9, hr9, hu⟩ := hu
    subst hr9
    refine lv_i2l (v := ((doMerge S bi rc nc (cn x) (cn y) (cn z)).1).toInt64) hx hb dL_merge_10 rfl ?_
    refine hv_out hx hb hK hW hO ho hS dL_merge_11 (fun H locs hW hO hS => ?_)
    refine lv_goto (tgt := 27) hx hb dL_merge_12 (by decide) ?_
    refine lv_iconst (v := nI 0) hx hb dL_merge_27 (by decide) ?_
    exact W.iret (v := nI 0) hx hb hr (fun t9 ht9 _ => ⟨⟨_, (u9, (vp_updL f 0 (((doMerge S bi rc nc (cn x) (cn y) (cn z)).1).toInt64))), rfl, ⟨(by simp [h9, l2]), (by rw [if_pos h9]; exact hu), fun _ => vp_updL0 f _⟩, ⟨show cW G u9 t9.heap by rw [ht9]; exact hW, show oW G o (vp_updL f 0 (((doMerge S bi rc nc (cn x) (cn y) (cn z)).1).toInt64)) t9.heap by rw [ht9]; exact hO⟩⟩, hS.F ht9⟩) hS.2.2 dL_merge_28
