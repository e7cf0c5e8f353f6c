set_option maxHeartbeats 4000000 in
set_option maxRecDepth 100000 in
theorem k_L_conflict (l : Launch) (hlt : l.stackTraces = false) (G : GT) (S : SS) (sz o : Nat) (f : Nat → Int64) (ho : oOk G o) {lc : Nat → Nat} (hls : ∀ i, i < 2 → lc i ≤ 48 ∧ S.1 (129 + 5 * i) 9 = nI (lc i)) (x y z : Int32) : Met l yL_conflict wsL_conflict ({ frames := 8, cells := 8, slots := 48, locals := 127 } : Room) (va_Pc [.ref (gA G 139), .int x, .int y, .int z, .ref o] (fun U => U.heap.size = sz ∧ hP G S o f U)) (va_Qi (fun r u => r = nI (cdConflict (lc (cn x)) x y z) ∧ u.1 = S ∧ (cdConflict (lc (cn x)) x y z = 0 → u.2 0 = ((if z = nI 0 then S.1 (132 + 5 * cn x) (cn y) else S.1 (133 + 5 * cn x) (cn y))).toInt64)) (hB G o) (gO G o sz)) 8 48 (gO G o sz) := by
  refine va_MetW (cc := cL_conflict) (maxL := 6) (ret := (some .int)) (hh := [(0, 12, 15, 13), (0, 12, 19, 19)]) (by decide) rfl ?_
  intro p e s m args below meth c s₁ B hml hv
  obtain ⟨rfl, hsz, hW, hK, hO, hn⟩ := hv
  subst hsz
  have hx := B.exec
  have hb := B.bytes
  have hr := B.returns
  have hts := atoms_spec (ws := wsL_conflict) B.pre
  have htab := vx_table (x := yL_conflict) B (hts (.codeWith yL_conflict cL_conflict 6 (some .int) [(0, 12, 15, 13), (0, 12, 19, 19)]) List.mem_cons_self)
  have hown : s.vm.findClass RL = some m.cls := findClass_of_methodNamed B.named
  have hS : va_S (gF G s.heap.size) s.heap s.heap [] := va_S.rf
  have hl := lv_entry ([.ref (gA G 139), .int x, .int y, .int z, .ref o]) (n := 6) (Nat.le_of_ble_eq_true rfl)
  rw [lg_entry_eq]
  generalize (lg_sl ([.ref (gA G 139), .int x, .int y, .int z, .ref o]) ++ List.replicate (6 - (lg_sl ([.ref (gA G 139), .int x, .int y, .int z, .ref o])).length) Slot.unset).toArray = ls at hl ⊢
  have hl : lv_has ls 6 [(0, .ref (gA G 139)), (1, .int x), (2, .int y), (3, .int z), (4, .ref o)] := hl
  refine lv_aload hx hb dL_conflict_0 (lv_at hl 4 rfl) ?_
  refine lv_iconst (v := nI 0) hx hb dL_conflict_2 (by decide) ?_
  refine lv_aload_n hx hb dL_conflict_3 rfl (lv_at hl 0 rfl) ?_
  refine lv_iload_n hx hb dL_conflict_4 rfl (lv_at hl 1 rfl) ?_
  refine lv_iload_n hx hb dL_conflict_5 rfl (lv_at hl 2 rfl) ?_
  refine lv_iload_n hx hb dL_conflict_6 rfl (lv_at hl 3 rfl) ?_
  refine hv_si hW hO (vx_runV (As := [.int x, .int y, .int z]) (rest := [.int (nI 0), .ref o]) ⟨hx, hb, hml, hown, hts⟩ (k_X2_conflict l hlt G S hls x y z) (cwV 3 hts gL_conflict_X2_conflict rfl rfl rfl (by decide +kernel) ⟨Nat.le_of_ble_eq_true rfl, Nat.le_of_ble_eq_true rfl⟩) ⟨cP_blind, c_recv hW hK (k := 139) (ci := 2) cw_O rfl, cP_at hW hK hS⟩ rfl rfl hl.1 rfl (lv_room (Nat.le_of_ble_eq_true rfl)) dL_conflict_7 ⟨Nat.le_of_ble_eq_true rfl, Nat.le_of_ble_eq_true rfl⟩) (fun E ce q H locs hE hW hO hS hce hcv hcl => ?_) (fun r9 hu => ?_)
  · have hcd : cdConflict (lc (cn x)) x y z = 0 ∨ cdConflict (lc (cn x)) x y z = 1 ∨ cdConflict (lc (cn x)) x y z = 2 := by unfold cdConflict; (repeat' split) <;> simp
    rcases hcd with h9 | h9 | h9
    · exact absurd h9 hE.2
    · have hE9 : E = eN := hE.1.trans (by rw [h9]; rfl)
      subst hE9
      refine hc_N hown htab (by decide) (hts (.classLink RL 13 eN) (by decide +kernel)) hK hce hcv hcl ?_
      refine lv_astore (lv' := [(5, .ref q), (0, .ref (gA G 139)), (1, .int x), (2, .int y), (3, .int z), (4, .ref o)]) hx hb dL_conflict_15 hl (by decide) rfl (fun ls hl => ?_)
      refine lv_iconst (v := nI 1) hx hb dL_conflict_17 (by decide) ?_
      exact W.iret (v := nI 1) hx hb hr (fun t9 ht9 _ => ⟨⟨_, (S, f), rfl, ⟨(by simp [h9, l2]), rfl, fun z => absurd (h9.symm.trans z) (by decide)⟩, ⟨show cW G S t9.heap by rw [ht9]; exact hW, show oW G o f t9.heap by rw [ht9]; exact hO⟩⟩, hS.F ht9⟩) hS.2.2 dL_conflict_18
    · have hE9 : E = eA := hE.1.trans (by rw [h9]; rfl)
      subst hE9
      refine hc_A hown htab (by decide) (hts (.classLink RL 13 eN) (by decide +kernel)) (hts (.classLink RL 19 eA) (by decide +kernel)) hK hn hce hcv hcl ?_
      refine lv_astore (lv' := [(5, .ref q), (0, .ref (gA G 139)), (1, .int x), (2, .int y), (3, .int z), (4, .ref o)]) hx hb dL_conflict_19 hl (by decide) rfl (fun ls hl => ?_)
      refine lv_iconst (v := nI 2) hx hb dL_conflict_21 (by decide) ?_
      exact W.iret (v := nI 2) hx hb hr (fun t9 ht9 _ => ⟨⟨_, (S, f), rfl, ⟨(by simp [h9, l2]), rfl, fun z => absurd (h9.symm.trans z) (by decide)⟩, ⟨show cW G S t9.heap by rw [ht9]; exact hW, show oW G o f t9.heap by rw [ht9]; exact hO⟩⟩, hS.F ht9⟩) hS.2.2 dL_conflict_22
  · have hS : va_S (gO G o s.heap.size) s.heap s.heap [] := va_S.rf
    obtain ⟨h9, hr9⟩ := hu
    subst hr9
    refine lv_i2l (v := (if z = nI 0 then S.1 (132 + 5 * cn x) (cn y) else S.1 (133 + 5 * cn x) (cn y)).toInt64) hx hb dL_conflict_10 rfl ?_
    refine hv_out hx hb hK hW hO ho hS dL_conflict_11 (fun H locs hW hO hS => ?_)
    refine lv_goto (tgt := 23) hx hb dL_conflict_12 (by decide) ?_
    refine lv_iconst (v := nI 0) hx hb dL_conflict_23 (by decide) ?_
    exact W.iret (v := nI 0) hx hb hr (fun t9 ht9 _ => ⟨⟨_, (S, (vp_updL f 0 ((if z = nI 0 then S.1 (132 + 5 * cn x) (cn y) else S.1 (133 + 5 * cn x) (cn y)).toInt64))), rfl, ⟨(by simp [h9, l2]), rfl, fun _ => vp_updL0 f _⟩, ⟨show cW G S t9.heap by rw [ht9]; exact hW, show oW G o (vp_updL f 0 ((if z = nI 0 then S.1 (132 + 5 * cn x) (cn y) else S.1 (133 + 5 * cn x) (cn y)).toInt64)) t9.heap by rw [ht9]; exact hO⟩⟩, hS.F ht9⟩) hS.2.2 dL_conflict_24

set_option maxHeartbeats 4000000 in
set_option maxRecDepth 100000 in
theorem k_L_about (l : Launch) (hlt : l.stackTraces = false) (G : GT) (S : SS) (sz o : Nat) (f : Nat → Int64) (ho : oOk G o) {rc : Nat} (hrc : S.1 139 4 = nI rc) (h40 : rc ≤ 40) (x y z : Int32) : Met l yL_about wsL_about ({ frames := 8, cells := 8, slots := 48, locals := 127 } : Room) (va_Pc [.ref (gA G 139), .int x, .int y, .int z, .ref o] (fun U => U.heap.size = sz ∧ hP G S o f U)) (va_Qi (fun r u => r = nI (cdAbout S rc x y z) ∧ u.1 = S ∧ (cdAbout S rc x y z = 0 → u.2 0 = (anAbout S (cn x) (cn y) (cn z)).toInt64)) (hB G o) (gO G o sz)) 8 48 (gO G o sz) := by
  refine va_MetW (cc := cL_about) (maxL := 6) (ret := (some .int)) (hh := [(0, 12, 15, 13), (0, 12, 19, 19)]) (by decide) rfl ?_
  intro p e s m args below meth c s₁ B hml hv
  obtain ⟨rfl, hsz, hW, hK, hO, hn⟩ := hv
  subst hsz
  have hx := B.exec
  have hb := B.bytes
  have hr := B.returns
  have hts := atoms_spec (ws := wsL_about) B.pre
  have htab := vx_table (x := yL_about) B (hts (.codeWith yL_about cL_about 6 (some .int) [(0, 12, 15, 13), (0, 12, 19, 19)]) List.mem_cons_self)
  have hown : s.vm.findClass RL = some m.cls := findClass_of_methodNamed B.named
  have hS : va_S (gF G s.heap.size) s.heap s.heap [] := va_S.rf
  have hl := lv_entry ([.ref (gA G 139), .int x, .int y, .int z, .ref o]) (n := 6) (Nat.le_of_ble_eq_true rfl)
  rw [lg_entry_eq]
  generalize (lg_sl ([.ref (gA G 139), .int x, .int y, .int z, .ref o]) ++ List.replicate (6 - (lg_sl ([.ref (gA G 139), .int x, .int y, .int z, .ref o])).length) Slot.unset).toArray = ls at hl ⊢
  have hl : lv_has ls 6 [(0, .ref (gA G 139)), (1, .int x), (2, .int y), (3, .int z), (4, .ref o)] := hl
  refine lv_aload hx hb dL_about_0 (lv_at hl 4 rfl) ?_
  refine lv_iconst (v := nI 0) hx hb dL_about_2 (by decide) ?_
  refine lv_aload_n hx hb dL_about_3 rfl (lv_at hl 0 rfl) ?_
  refine lv_iload_n hx hb dL_about_4 rfl (lv_at hl 1 rfl) ?_
  refine lv_iload_n hx hb dL_about_5 rfl (lv_at hl 2 rfl) ?_
  refine lv_iload_n hx hb dL_about_6 rfl (lv_at hl 3 rfl) ?_
  refine hv_si hW hO (vx_runV (As := [.int x, .int y, .int z]) (rest := [.int (nI 0), .ref o]) ⟨hx, hb, hml, hown, hts⟩ (k_X2_about l hlt G S hrc h40 x y z) (cwV 3 hts gL_about_X2_about rfl rfl rfl (by decide +kernel) ⟨Nat.le_of_ble_eq_true rfl, Nat.le_of_ble_eq_true rfl⟩) ⟨cP_blind, c_recv hW hK (k := 139) (ci := 2) cw_O rfl, cP_at hW hK hS⟩ rfl rfl hl.1 rfl (lv_room (Nat.le_of_ble_eq_true rfl)) dL_about_7 ⟨Nat.le_of_ble_eq_true rfl, Nat.le_of_ble_eq_true rfl⟩) (fun E ce q H locs hE hW hO hS hce hcv hcl => ?_) (fun r9 hu => ?_)
  · have hcd : cdAbout S rc x y z = 0 ∨ cdAbout S rc x y z = 1 ∨ cdAbout S rc x y z = 2 := by unfold cdAbout; (repeat' split) <;> simp
    rcases hcd with h9 | h9 | h9
    · exact absurd h9 hE.2
    · have hE9 : E = eN := hE.1.trans (by rw [h9]; rfl)
      subst hE9
      refine hc_N hown htab (by decide) (hts (.classLink RL 13 eN) (by decide +kernel)) hK hce hcv hcl ?_
      refine lv_astore (lv' := [(5, .ref q), (0, .ref (gA G 139)), (1, .int x), (2, .int y), (3, .int z), (4, .ref o)]) hx hb dL_about_15 hl (by decide) rfl (fun ls hl => ?_)
      refine lv_iconst (v := nI 1) hx hb dL_about_17 (by decide) ?_
      exact W.iret (v := nI 1) hx hb hr (fun t9 ht9 _ => ⟨⟨_, (S, f), rfl, ⟨(by simp [h9, l2]), rfl, fun z => absurd (h9.symm.trans z) (by decide)⟩, ⟨show cW G S t9.heap by rw [ht9]; exact hW, show oW G o f t9.heap by rw [ht9]; exact hO⟩⟩, hS.F ht9⟩) hS.2.2 dL_about_18
    · have hE9 : E = eA := hE.1.trans (by rw [h9]; rfl)
      subst hE9
      refine hc_A hown htab (by decide) (hts (.classLink RL 13 eN) (by decide +kernel)) (hts (.classLink RL 19 eA) (by decide +kernel)) hK hn hce hcv hcl ?_
      refine lv_astore (lv' := [(5, .ref q), (0, .ref (gA G 139)), (1, .int x), (2, .int y), (3, .int z), (4, .ref o)]) hx hb dL_about_19 hl (by decide) rfl (fun ls hl => ?_)
      refine lv_iconst (v := nI 2) hx hb dL_about_21 (by decide) ?_
      exact W.iret (v := nI 2) hx hb hr (fun t9 ht9 _ => ⟨⟨_, (S, f), rfl, ⟨(by simp [h9, l2]), rfl, fun z => absurd (h9.symm.trans z) (by decide)⟩, ⟨show cW G S t9.heap by rw [ht9]; exact hW, show oW G o f t9.heap by rw [ht9]; exact hO⟩⟩, hS.F ht9⟩) hS.2.2 dL_about_22
  · have hS : va_S (gO G o s.heap.size) s.heap s.heap [] := va_S.rf
    obtain ⟨h9, hr9⟩ := hu
    subst hr9
    refine lv_i2l (v := (anAbout S (cn x) (cn y) (cn z)).toInt64) hx hb dL_about_10 rfl ?_
    refine hv_out hx hb hK hW hO ho hS dL_about_11 (fun H locs hW hO hS => ?_)
    refine lv_goto (tgt := 23) hx hb dL_about_12 (by decide) ?_
    refine lv_iconst (v := nI 0) hx hb dL_about_23 (by decide) ?_
    exact W.iret (v := nI 0) hx hb hr (fun t9 ht9 _ => ⟨⟨_, (S, (vp_updL f 0 ((anAbout S (cn x) (cn y) (cn z)).toInt64))), rfl, ⟨(by simp [h9, l2]), rfl, fun _ => vp_updL0 f _⟩, ⟨show cW G S t9.heap by rw [ht9]; exact hW, show oW G o (vp_updL f 0 ((anAbout S (cn x) (cn y) (cn z)).toInt64)) t9.heap by rw [ht9]; exact hO⟩⟩, hS.F ht9⟩) hS.2.2 dL_about_24

set_option maxHeartbeats 4000000 in
set_option maxRecDepth 100000 in
theorem k_L_marks (l : Launch) (hlt : l.stackTraces = false) (G : GT) (S : SS) (sz o : Nat) (f : Nat → Int64) (ho : oOk G o) {rc : Nat} (hrc : S.1 139 4 = nI rc) (h40 : rc ≤ 40) (x y z : Int32) : Met l yL_marks wsL_marks ({ frames := 8, cells := 8, slots := 48, locals := 126 } : Room) (va_Pc [.ref (gA G 139), .int x, .int y, .int z, .ref o] (fun U => U.heap.size = sz ∧ hP G S o f U)) (va_Qi (fun r u => r = nI (cdMarks S rc x y z) ∧ u.1 = S ∧ (cdMarks S rc x y z = 0 → u.2 0 = S.2 (3 * cn x + 2) (cn y * 3 + cn z))) (hB G o) (gO G o sz)) 8 48 (gO G o sz) := by
  refine va_MetW (cc := cL_marks) (maxL := 6) (ret := (some .int)) (hh := [(0, 11, 14, 13), (0, 11, 18, 19)]) (by decide) rfl ?_
  intro p e s m args below meth c s₁ B hml hv
  obtain ⟨rfl, hsz, hW, hK, hO, hn⟩ := hv
  subst hsz
  have hx := B.exec
  have hb := B.bytes
  have hr := B.returns
  have hts := atoms_spec (ws := wsL_marks) B.pre
  have htab := vx_table (x := yL_marks) B (hts (.codeWith yL_marks cL_marks 6 (some .int) [(0, 11, 14, 13), (0, 11, 18, 19)]) List.mem_cons_self)
  have hown : s.vm.findClass RL = some m.cls := findClass_of_methodNamed B.named
  have hS : va_S (gF G s.heap.size) s.heap s.heap [] := va_S.rf
  have hl := lv_entry ([.ref (gA G 139), .int x, .int y, .int z, .ref o]) (n := 6) (Nat.le_of_ble_eq_true rfl)
  rw [lg_entry_eq]
  generalize (lg_sl ([.ref (gA G 139), .int x, .int y, .int z, .ref o]) ++ List.replicate (6 - (lg_sl ([.ref (gA G 139), .int x, .int y, .int z, .ref o])).length) Slot.unset).toArray = ls at hl ⊢
  have hl : lv_has ls 6 [(0, .ref (gA G 139)), (1, .int x), (2, .int y), (3, .int z), (4, .ref o)] := hl
  refine lv_aload hx hb dL_marks_0 (lv_at hl 4 rfl) ?_
  refine lv_iconst (v := nI 0) hx hb dL_marks_2 (by decide) ?_
  refine lv_aload_n hx hb dL_marks_3 rfl (lv_at hl 0 rfl) ?_
  refine lv_iload_n hx hb dL_marks_4 rfl (lv_at hl 1 rfl) ?_
  refine lv_iload_n hx hb dL_marks_5 rfl (lv_at hl 2 rfl) ?_
  refine lv_iload_n hx hb dL_marks_6 rfl (lv_at hl 3 rfl) ?_
  refine hv_sl hW hO (vx_runV (As := [.int x, .int y, .int z]) (rest := [.int (nI 0), .ref o]) ⟨hx, hb, hml, hown, hts⟩ (k_X2_marks l hlt G S hrc h40 x y z) (cwV 3 hts gL_marks_X2_marks rfl rfl rfl (by decide +kernel) ⟨Nat.le_of_ble_eq_true rfl, Nat.le_of_ble_eq_true rfl⟩) ⟨cP_blind, c_recv hW hK (k := 139) (ci := 2) cw_O rfl, cP_at hW hK hS⟩ rfl rfl hl.1 rfl (lv_room (Nat.le_of_ble_eq_true rfl)) dL_marks_7 ⟨Nat.le_of_ble_eq_true rfl, Nat.le_of_ble_eq_true rfl⟩) (fun E ce q H locs hE hW hO hS hce hcv hcl => ?_) (fun r9 hu => ?_)
  · have hcd : cdMarks S rc x y z = 0 ∨ cdMarks S rc x y z = 1 ∨ cdMarks S rc x y z = 2 := by unfold cdMarks; (repeat' split) <;> simp
    rcases hcd with h9 | h9 | h9
    · exact absurd h9 hE.2
    · have hE9 : E = eN := hE.1.trans (by rw [h9]; rfl)
      subst hE9
      refine hc_N hown htab (by decide) (hts (.classLink RL 13 eN) (by decide +kernel)) hK hce hcv hcl ?_
      refine lv_astore (lv' := [(5, .ref q), (0, .ref (gA G 139)), (1, .int x), (2, .int y), (3, .int z), (4, .ref o)]) hx hb dL_marks_14 hl (by decide) rfl (fun ls hl => ?_)
      refine lv_iconst (v := nI 1) hx hb dL_marks_16 (by decide) ?_
      exact W.iret (v := nI 1) hx hb hr (fun t9 ht9 _ => ⟨⟨_, (S, f), rfl, ⟨(by simp [h9, l2]), rfl, fun z => absurd (h9.symm.trans z) (by decide)⟩, ⟨show cW G S t9.heap by rw [ht9]; exact hW, show oW G o f t9.heap by rw [ht9]; exact hO⟩⟩, hS.F ht9⟩) hS.2.2 dL_marks_17
    · have hE9 : E = eA := hE.1.trans (by rw [h9]; rfl)
      subst hE9
      refine hc_A hown htab (by decide) (hts (.classLink RL 13 eN) (by decide +kernel)) (hts (.classLink RL 19 eA) (by decide +kernel)) hK hn hce hcv hcl ?_
      refine lv_astore (lv' := [(5, .ref q), (0, .ref (gA G 139)), (1, .int x), (2, .int y), (3, .int z), (4, .ref o)]) hx hb dL_marks_18 hl (by decide) rfl (fun ls hl => ?_)
      refine lv_iconst (v := nI 2) hx hb dL_marks_20 (by decide) ?_
      exact W.iret (v := nI 2) hx hb hr (fun t9 ht9 _ => ⟨⟨_, (S, f), rfl, ⟨(by simp [h9, l2]), rfl, fun z => absurd (h9.symm.trans z) (by decide)⟩, ⟨show cW G S t9.heap by rw [ht9]; exact hW, show oW G o f t9.heap by rw [ht9]; exact hO⟩⟩, hS.F ht9⟩) hS.2.2 dL_marks_21
  · have hS : va_S (gO G o s.heap.size) s.heap s.heap [] := va_S.rf
    obtain ⟨h9, hr9⟩ := hu
    subst hr9
    refine hv_out hx hb hK hW hO ho hS dL_marks_10 (fun H locs hW hO hS => ?_)
    refine lv_goto (tgt := 22) hx hb dL_marks_11 (by decide) ?_
    refine lv_iconst (v := nI 0) hx hb dL_marks_22 (by decide) ?_
    exact W.iret (v := nI 0) hx hb hr (fun t9 ht9 _ => ⟨⟨_, (S, (vp_updL f 0 (S.2 (3 * cn x + 2) (cn y * 3 + cn z)))), rfl, ⟨(by simp [h9, l2]), rfl, fun _ => vp_updL0 f _⟩, ⟨show cW G S t9.heap by rw [ht9]; exact hW, show oW G o (vp_updL f 0 (S.2 (3 * cn x + 2) (cn y * 3 + cn z))) t9.heap by rw [ht9]; exact hO⟩⟩, hS.F ht9⟩) hS.2.2 dL_marks_23

set_option maxHeartbeats 4000000 in
set_option maxRecDepth 100000 in
theorem k_L_nodes (l : Launch) (hlt : l.stackTraces = false) (G : GT) (S : SS) (sz o : Nat) (f : Nat → Int64) (ho : oOk G o) {rc : Nat} (hrc : S.1 139 4 = nI rc) (h40 : rc ≤ 40) (x y : Int32) : Met l yL_nodes wsL_nodes ({ frames := 9, cells := 8, slots := 48, locals := 148 } : Room) (va_Pc [.ref (gA G 139), .int x, .int y, .ref o] (fun U => U.heap.size = sz ∧ hP G S o f U)) (va_Qi (fun r u => r = nI (cdNodes S rc x y) ∧ u.1 = S ∧ (cdNodes S rc x y = 0 → u.2 0 = anNodes S x y)) (hB G o) (gO G o sz)) 8 48 (gO G o sz) := by
  refine va_MetW (cc := cL_nodes) (maxL := 5) (ret := (some .int)) (hh := [(0, 9, 12, 13)]) (by decide) rfl ?_
  intro p e s m args below meth c s₁ B hml hv
  obtain ⟨rfl, hsz, hW, hK, hO, hn⟩ := hv
  subst hsz
  have hx := B.exec
  have hb := B.bytes
  have hr := B.returns
  have hts := atoms_spec (ws := wsL_nodes) B.pre
  have htab := vx_table (x := yL_nodes) B (hts (.codeWith yL_nodes cL_nodes 5 (some .int) [(0, 9, 12, 13)]) List.mem_cons_self)
  have hown : s.vm.findClass RL = some m.cls := findClass_of_methodNamed B.named
  have hS : va_S (gF G s.heap.size) s.heap s.heap [] := va_S.rf
  have hl := lv_entry ([.ref (gA G 139), .int x, .int y, .ref o]) (n := 5) (Nat.le_of_ble_eq_true rfl)
  rw [lg_entry_eq]
  generalize (lg_sl ([.ref (gA G 139), .int x, .int y, .ref o]) ++ List.replicate (5 - (lg_sl ([.ref (gA G 139), .int x, .int y, .ref o])).length) Slot.unset).toArray = ls at hl ⊢
  have hl : lv_has ls 5 [(0, .ref (gA G 139)), (1, .int x), (2, .int y), (3, .ref o)] := hl
  refine lv_aload_n hx hb dL_nodes_0 rfl (lv_at hl 3 rfl) ?_
  refine lv_iconst (v := nI 0) hx hb dL_nodes_1 (by decide) ?_
  refine lv_aload_n hx hb dL_nodes_2 rfl (lv_at hl 0 rfl) ?_
  refine lv_iload_n hx hb dL_nodes_3 rfl (lv_at hl 1 rfl) ?_
  refine lv_iload_n hx hb dL_nodes_4 rfl (lv_at hl 2 rfl) ?_
  refine hv_sl hW hO (vx_runV (As := [.int x, .int y]) (rest := [.int (nI 0), .ref o]) ⟨hx, hb, hml, hown, hts⟩ (k_X2_nodes l hlt G S hrc h40 x y) (cwV 2 hts gL_nodes_X2_nodes rfl rfl rfl (by decide +kernel) ⟨Nat.le_of_ble_eq_true rfl, Nat.le_of_ble_eq_true rfl⟩) ⟨cP_blind, c_recv hW hK (k := 139) (ci := 2) cw_O rfl, cP_at hW hK hS⟩ rfl rfl hl.1 rfl (lv_room (Nat.le_of_ble_eq_true rfl)) dL_nodes_5 ⟨Nat.le_of_ble_eq_true rfl, Nat.le_of_ble_eq_true rfl⟩) (fun E ce q H locs hE hW hO hS hce hcv hcl => ?_) (fun r9 hu => ?_)
  · have hcd : cdNodes S rc x y = 0 ∨ cdNodes S rc x y = 1 := by unfold cdNodes; (repeat' split) <;> simp
    rcases hcd with h9 | h9
    · exact absurd h9 hE.2
    · have hE9 : E = eN := hE.1.trans (by rw [h9]; rfl)
      subst hE9
      refine hc_N hown htab (by decide) (hts (.classLink RL 13 eN) (by decide +kernel)) hK hce hcv hcl ?_
      refine lv_astore (lv' := [(4, .ref q), (0, .ref (gA G 139)), (1, .int x), (2, .int y), (3, .ref o)]) hx hb dL_nodes_12 hl (by decide) rfl (fun ls hl => ?_)
      refine lv_iconst (v := nI 1) hx hb dL_nodes_14 (by decide) ?_
      exact W.iret (v := nI 1) hx hb hr (fun t9 ht9 _ => ⟨⟨_, (S, f), rfl, ⟨(by simp [h9, l2]), rfl, fun z => absurd (h9.symm.trans z) (by decide)⟩, ⟨show cW G S t9.heap by rw [ht9]; exact hW, show oW G o f t9.heap by rw [ht9]; exact hO⟩⟩, hS.F ht9⟩) hS.2.2 dL_nodes_15
  · have hS : va_S (gO G o s.heap.size) s.heap s.heap [] := va_S.rf
    obtain ⟨h9, hr9⟩ := hu
    subst hr9
    refine hv_out hx hb hK hW hO ho hS dL_nodes_8 (fun H locs hW hO hS => ?_)
    refine lv_goto (tgt := 16) hx hb dL_nodes_9 (by decide) ?_
    refine lv_iconst (v := nI 0) hx hb dL_nodes_16 (by decide) ?_
    exact W.iret (v := nI 0) hx hb hr (fun t9 ht9 _ => ⟨⟨_, (S, (vp_updL f 0 (anNodes S x y))), rfl, ⟨(by simp [h9, l2]), rfl, fun _ => vp_updL0 f _⟩, ⟨show cW G S t9.heap by rw [ht9]; exact hW, show oW G o (vp_updL f 0 (anNodes S x y)) t9.heap by rw [ht9]; exact hO⟩⟩, hS.F ht9⟩) hS.2.2 dL_nodes_17

set_option maxHeartbeats 4000000 in
set_option maxRecDepth 100000 in
theorem k_L_ancestors (l : Launch) (hlt : l.stackTraces = false) (G : GT) (S : SS) (sz o : Nat) (f : Nat → Int64) (ho : oOk G o) {rc : Nat} (hrc : S.1 139 4 = nI rc) (h40 : rc ≤ 40) (x : Int32) : Met l yL_ancestors wsL_ancestors ({ frames := 8, cells := 8, slots := 48, locals := 124 } : Room) (va_Pc [.ref (gA G 139), .int x, .ref o] (fun U => U.heap.size = sz ∧ hP G S o f U)) (va_Qi (fun r u => r = nI (cdAnc rc x) ∧ u.1 = S ∧ (cdAnc rc x = 0 → u.2 0 = S.2 141 (cn x))) (hB G o) (gO G o sz)) 8 48 (gO G o sz) := by
  refine va_MetW (cc := cL_ancestors) (maxL := 4) (ret := (some .int)) (hh := [(0, 8, 11, 13)]) (by decide) rfl ?_
  intro p e s m args below meth c s₁ B hml hv
  obtain ⟨rfl, hsz, hW, hK, hO, hn⟩ := hv
  subst hsz
  have hx := B.exec
  have hb := B.bytes
  have hr := B.returns
  have hts := atoms_spec (ws := wsL_ancestors) B.pre
  have htab := vx_table (x := yL_ancestors) B (hts (.codeWith yL_ancestors cL_ancestors 4 (some .int) [(0, 8, 11, 13)]) List.mem_cons_self)
  have hown : s.vm.findClass RL = some m.cls := findClass_of_methodNamed B.named
  have hS : va_S (gF G s.heap.size) s.heap s.heap [] := va_S.rf
  have hl := lv_entry ([.ref (gA G 139), .int x, .ref o]) (n := 4) (Nat.le_of_ble_eq_true rfl)
  rw [lg_entry_eq]
  generalize (lg_sl ([.ref (gA G 139), .int x, .ref o]) ++ List.replicate (4 - (lg_sl ([.ref (gA G 139), .int x, .ref o])).length) Slot.unset).toArray = ls at hl ⊢
  have hl : lv_has ls 4 [(0, .ref (gA G 139)), (1, .int x), (2, .ref o)] := hl
  refine lv_aload_n hx hb dL_ancestors_0 rfl (lv_at hl 2 rfl) ?_
  refine lv_iconst (v := nI 0) hx hb dL_ancestors_1 (by decide) ?_
  refine lv_aload_n hx hb dL_ancestors_2 rfl (lv_at hl 0 rfl) ?_
  refine lv_iload_n hx hb dL_ancestors_3 rfl (lv_at hl 1 rfl) ?_
  refine hv_sl hW hO (vx_runV (As := [.int x]) (rest := [.int (nI 0), .ref o]) ⟨hx, hb, hml, hown, hts⟩ (k_X2_ancestors l hlt G S hrc h40 x) (cwV 1 hts gL_ancestors_X2_ancestors rfl rfl rfl (by decide +kernel) ⟨Nat.le_of_ble_eq_true rfl, Nat.le_of_ble_eq_true rfl⟩) ⟨cP_blind, c_recv hW hK (k := 139) (ci := 2) cw_O rfl, cP_at hW hK hS⟩ rfl rfl hl.1 rfl (lv_room (Nat.le_of_ble_eq_true rfl)) dL_ancestors_4 ⟨Nat.le_of_ble_eq_true rfl, Nat.le_of_ble_eq_true rfl⟩) (fun E ce q H locs hE hW hO hS hce hcv hcl => ?_) (fun r9 hu => ?_)
  · have hcd : cdAnc rc x = 0 ∨ cdAnc rc x = 1 := by unfold cdAnc; (repeat' split) <;> simp
    rcases hcd with h9 | h9
    · exact absurd h9 hE.2
    · have hE9 : E = eN := hE.1.trans (by rw [h9]; rfl)
      subst hE9
      refine hc_N hown htab (by decide) (hts (.classLink RL 13 eN) (by decide +kernel)) hK hce hcv hcl ?_
      refine lv_astore_n (lv' := [(3, .ref q), (0, .ref (gA G 139)), (1, .int x), (2, .ref o)]) hx hb dL_ancestors_11 rfl hl (by decide) rfl (fun ls hl => ?_)
      refine lv_iconst (v := nI 1) hx hb dL_ancestors_12 (by decide) ?_
      exact W.iret (v := nI 1) hx hb hr (fun t9 ht9 _ => ⟨⟨_, (S, f), rfl, ⟨(by simp [h9, l2]), rfl, fun z => absurd (h9.symm.trans z) (by decide)⟩, ⟨show cW G S t9.heap by rw [ht9]; exact hW, show oW G o f t9.heap by rw [ht9]; exact hO⟩⟩, hS.F ht9⟩) hS.2.2 dL_ancestors_13
  · have hS : va_S (gO G o s.heap.size) s.heap s.heap [] := va_S.rf
    obtain ⟨h9, hr9⟩ := hu
    subst hr9
    refine hv_out hx hb hK hW hO ho hS dL_ancestors_7 (fun H locs hW hO hS => ?_)
    refine lv_goto (tgt := 14) hx hb dL_ancestors_8 (by decide) ?_
    refine lv_iconst (v := nI 0) hx hb dL_ancestors_14 (by decide) ?_
    exact W.iret (v := nI 0) hx hb hr (fun t9 ht9 _ => ⟨⟨_, (S, (vp_updL f 0 (S.2 141 (cn x)))), rfl, ⟨(by simp [h9, l2]), rfl, fun _ => vp_updL0 f _⟩, ⟨show cW G S t9.heap by rw [ht9]; exact hW, show oW G o (vp_updL f 0 (S.2 141 (cn x))) t9.heap by rw [ht9]; exact hO⟩⟩, hS.F ht9⟩) hS.2.2 dL_ancestors_15

set_option maxHeartbeats 4000000 in
set_option maxRecDepth 100000 in
theorem k_L_certify (l : Launch) (hlt : l.stackTraces = false) (G : GT) (S : SS) (sz o : Nat) (f : Nat → Int64) (ho : oOk G o) {rc : Nat} (hrc : S.1 139 4 = nI rc) (h40 : rc ≤ 40) (x y z w : Int32) : Met l yL_certify wsL_certify ({ frames := 9, cells := 8, slots := 48, locals := 152 } : Room) (va_Pc [.ref (gA G 139), .int x, .int y, .int z, .int w, .ref o] (fun U => U.heap.size = sz ∧ hP G S o f U)) (va_Qi (fun r u => r = nI (cdCertify S rc x y z w) ∧ u.1 = (if cdCertify S rc x y z w = 0 then s2 S (130 + 5 * cn x) (cn z * 3 + cn w) (S.2 (130 + 5 * cn x) (cn z * 3 + cn w) ||| b64 (cn y)) else S) ∧ (cdCertify S rc x y z w = 0 → u.2 0 = if (!tb (S.2 (130 + 5 * cn x) (cn z * 3 + cn w)) (cn y)) = true then 1 else 0)) (hB G o) (gO G o sz)) 8 48 (gO G o sz) := by
  refine va_MetW (cc := cL_certify) (maxL := 7) (ret := (some .int)) (hh := [(0, 21, 24, 13)]) (by decide) rfl ?_
  intro p e s m args below meth c s₁ B hml hv
  obtain ⟨rfl, hsz, hW, hK, hO, hn⟩ := hv
  subst hsz
  have hx := B.exec
  have hb := B.bytes
  have hr := B.returns
  have hts := atoms_spec (ws := wsL_certify) B.pre
  have htab := vx_table (x := yL_certify) B (hts (.codeWith yL_certify cL_certify 7 (some .int) [(0, 21, 24, 13)]) List.mem_cons_self)
  have hown : s.vm.findClass RL = some m.cls := findClass_of_methodNamed B.named
  have hS : va_S (gF G s.heap.size) s.heap s.heap [] := va_S.rf
  have hl := lv_entry ([.ref (gA G 139), .int x, .int y, .int z, .int w, .ref o]) (n := 7) (Nat.le_of_ble_eq_true rfl)
  rw [lg_entry_eq]
  generalize (lg_sl ([.ref (gA G 139), .int x, .int y, .int z, .int w, .ref o]) ++ List.replicate (7 - (lg_sl ([.ref (gA G 139), .int x, .int y, .int z, .int w, .ref o])).length) Slot.unset).toArray = ls at hl ⊢
  have hl : lv_has ls 7 [(0, .ref (gA G 139)), (1, .int x), (2, .int y), (3, .int z), (4, .int w), (5, .ref o)] := hl
  refine lv_aload hx hb dL_certify_0 (lv_at hl 5 rfl) ?_
  refine lv_iconst (v := nI 0) hx hb dL_certify_2 (by decide) ?_
  refine lv_aload_n hx hb dL_certify_3 rfl (lv_at hl 0 rfl) ?_
  refine lv_iload_n hx hb dL_certify_4 rfl (lv_at hl 1 rfl) ?_
  refine lv_iload_n hx hb dL_certify_5 rfl (lv_at hl 2 rfl) ?_
  refine lv_iload_n hx hb dL_certify_6 rfl (lv_at hl 3 rfl) ?_
  refine lv_iload hx hb dL_certify_7 (lv_at hl 4 rfl) ?_
  refine hv_i hW hO ho (vx_runV (As := [.int x, .int y, .int z, .int w]) (rest := [.int (nI 0), .ref o]) ⟨hx, hb, hml, hown, hts⟩ (k_X2_certify l hlt G S s.heap.size hrc h40 x y z w) (cwV 4 hts gL_certify_X2_certify rfl rfl rfl (by decide +kernel) ⟨Nat.le_of_ble_eq_true rfl, Nat.le_of_ble_eq_true rfl⟩) ⟨cQ_blind, c_recv hW hK (k := 139) (ci := 2) cw_O rfl, cQ_at hW hK hS⟩ rfl rfl hl.1 rfl (lv_room (Nat.le_of_ble_eq_true rfl)) dL_certify_9 ⟨Nat.le_of_ble_eq_true rfl, Nat.le_of_ble_eq_true rfl⟩) (fun E ce q H locs hE hW hO hS hce hcv hcl => ?_) (fun r9 u9 H locs hu hW hO hS => ?_)
  · have hcd : cdCertify S rc x y z w = 0 ∨ cdCertify S rc x y z w = 1 := by unfold cdCertify; (repeat' split) <;> simp
    rcases hcd with h9 | h9
    · exact absurd h9 hE.2
    · have hE9 : E = eN := hE.1.trans (by rw [h9]; rfl)
      subst hE9
      refine hc_N hown htab (by decide) (hts (.classLink RL 13 eN) (by decide +kernel)) hK hce hcv hcl ?_
      refine lv_astore (lv' := [(6, .ref q), (0, .ref (gA G 139)), (1, .int x), (2, .int y), (3, .int z), (4, .int w), (5, .ref o)]) hx hb dL_certify_24 hl (by decide) rfl (fun ls hl => ?_)
      refine lv_iconst (v := nI 1) hx hb dL_certify_26 (by decide) ?_
      exact W.iret (v := nI 1) hx hb hr (fun t9 ht9 _ => ⟨⟨_, (S, f), rfl, ⟨(by simp [h9, l2]), (by rw [if_neg (by rw [h9]; decide)]), fun z => absurd (h9.symm.trans z) (by decide)⟩, ⟨show cW G S t9.heap by rw [ht9]; exact hW, show oW G o f t9.heap by rw [ht9]; exact hO⟩⟩, hS.F ht9⟩) hS.2.2 dL_certify_27
  · have hS := hS
    obtain ⟨h9, hr9, hu⟩ := hu
    subst hr9
    refine bv_if_eq (b := (!tb (S.2 (130 + 5 * cn x) (cn z * 3 + cn w)) (cn y))) (tgt := 19) hx hb dL_certify_12 (by decide) (fun c_12 => ?_) (fun c_12 => ?_)
    · refine lv_lconst (v := 0) hx hb dL_certify_19 (by decide) ?_
      refine hv_out hx hb hK hW hO ho hS dL_certify_20 (fun H locs hW hO hS => ?_)
      refine lv_goto (tgt := 28) hx hb dL_certify_21 (by decide) ?_
      refine lv_iconst (v := nI 0) hx hb dL_certify_28 (by decide) ?_
      exact W.iret (v := nI 0) hx hb hr (fun t9 ht9 _ => ⟨⟨_, (u9, (vp_updL f 0 0)), rfl, ⟨(by simp [h9, l2]), (by rw [if_pos h9]; exact hu), fun _ => by simp [vp_updL, c_12]⟩, ⟨show cW G u9 t9.heap by rw [ht9]; exact hW, show oW G o (vp_updL f 0 0) t9.heap by rw [ht9]; exact hO⟩⟩, hS.F ht9⟩) hS.2.2 dL_certify_29
    · refine lv_lconst (v := 1) hx hb dL_certify_15 (by decide) ?_
      refine lv_goto (tgt := 20) hx hb dL_certify_16 (by decide) ?_
      refine hv_out hx hb hK hW hO ho hS dL_certify_20 (fun H locs hW hO hS => ?_)
      refine lv_goto (tgt := 28) hx hb dL_certify_21 (by decide) ?_
      refine lv_iconst (v := nI 0) hx hb dL_certify_28 (by decide) ?_
      exact W.iret (v := nI 0) hx hb hr (fun t9 ht9 _ => ⟨⟨_, (u9, (vp_updL f 0 1)), rfl, ⟨(by simp [h9, l2]), (by rw [if_pos h9]; exact hu), fun _ => by simp [vp_updL, c_12]⟩, ⟨show cW G u9 t9.heap by rw [ht9]; exact hW, show oW G o (vp_updL f 0 1) t9.heap by rw [ht9]; exact hO⟩⟩, hS.F ht9⟩) hS.2.2 dL_certify_29

set_option maxHeartbeats 4000000 in
set_option maxRecDepth 100000 in
theorem k_L_trust (l : Launch) (hlt : l.stackTraces = false) (G : GT) (S : SS) (sz o : Nat) (f : Nat → Int64) (ho : oOk G o) (x y : Int32) (db : Bool) : Met l yL_trust wsL_trust ({ frames := 8, cells := 8, slots := 48, locals := 128 } : Room) (va_Pc [.ref (gA G 139), .int x, .int y, .int (bI db), .ref o] (fun U => U.heap.size = sz ∧ hP G S o f U)) (va_Qi (fun r u => r = nI (cdTrust x y) ∧ u.1 = (if cdTrust x y = 0 then doTrust S (cn x) (cn y) db else S) ∧ (cdTrust x y = 0 → u.2 0 = if (ti (S.1 (129 + 5 * cn x) 2) (cn y)) = true then 1 else 0)) (hB G o) (gO G o sz)) 8 48 (gO G o sz) := by
  refine va_MetW (cc := cL_trust) (maxL := 6) (ret := (some .int)) (hh := [(0, 19, 22, 13)]) (by decide) rfl ?_
  intro p e s m args below meth c s₁ B hml hv
  obtain ⟨rfl, hsz, hW, hK, hO, hn⟩ := hv
  subst hsz
  have hx := B.exec
  have hb := B.bytes
  have hr := B.returns
  have hts := atoms_spec (ws := wsL_trust) B.pre
  have htab := vx_table (x := yL_trust) B (hts (.codeWith yL_trust cL_trust 6 (some .int) [(0, 19, 22, 13)]) List.mem_cons_self)
  have hown : s.vm.findClass RL = some m.cls := findClass_of_methodNamed B.named
  have hS : va_S (gF G s.heap.size) s.heap s.heap [] := va_S.rf
  have hl := lv_entry ([.ref (gA G 139), .int x, .int y, .int (bI db), .ref o]) (n := 6) (Nat.le_of_ble_eq_true rfl)
  rw [lg_entry_eq]
  generalize (lg_sl ([.ref (gA G 139), .int x, .int y, .int (bI db), .ref o]) ++ List.replicate (6 - (lg_sl ([.ref (gA G 139), .int x, .int y, .int (bI db), .ref o])).length) Slot.unset).toArray = ls at hl ⊢
  have hl : lv_has ls 6 [(0, .ref (gA G 139)), (1, .int x), (2, .int y), (3, .int (bI db)), (4, .ref o)] := hl
  refine lv_aload hx hb dL_trust_0 (lv_at hl 4 rfl) ?_
  refine lv_iconst (v := nI 0) hx hb dL_trust_2 (by decide) ?_
  refine lv_aload_n hx hb dL_trust_3 rfl (lv_at hl 0 rfl) ?_
  refine lv_iload_n hx hb dL_trust_4 rfl (lv_at hl 1 rfl) ?_
  refine lv_iload_n hx hb dL_trust_5 rfl (lv_at hl 2 rfl) ?_
  refine lv_iload_n hx hb dL_trust_6 rfl (lv_at hl 3 rfl) ?_
  refine hv_i hW hO ho (vx_runV (As := [.int x, .int y, .int (bI db)]) (rest := [.int (nI 0), .ref o]) ⟨hx, hb, hml, hown, hts⟩ (k_X2_trust l hlt G S s.heap.size x y db) (cwV 3 hts gL_trust_X2_trust rfl rfl rfl (by decide +kernel) ⟨Nat.le_of_ble_eq_true rfl, Nat.le_of_ble_eq_true rfl⟩) ⟨cQ_blind, c_recv hW hK (k := 139) (ci := 2) cw_O rfl, cQ_at hW hK hS⟩ rfl rfl hl.1 rfl (lv_room (Nat.le_of_ble_eq_true rfl)) dL_trust_7 ⟨Nat.le_of_ble_eq_true rfl, Nat.le_of_ble_eq_true rfl⟩) (fun E ce q H locs hE hW hO hS hce hcv hcl => ?_) (fun r9 u9 H locs hu hW hO hS => ?_)
  · have hcd : cdTrust x y = 0 ∨ cdTrust x y = 1 := by unfold cdTrust; (repeat' split) <;> simp
    rcases hcd with h9 | h9
    · exact absurd h9 hE.2
    · have hE9 : E = eN := hE.1.trans (by rw [h9]; rfl)
      subst hE9
      refine hc_N hown htab (by decide) (hts (.classLink RL 13 eN) (by decide +kernel)) hK hce hcv hcl ?_
      refine lv_astore (lv' := [(5, .ref q), (0, .ref (gA G 139)), (1, .int x), (2, .int y), (3, .int (bI db)), (4, .ref o)]) hx hb dL_trust_22 hl (by decide) rfl (fun ls hl => ?_)
      refine lv_iconst (v := nI 1) hx hb dL_trust_24 (by decide) ?_
      exact W.iret (v := nI 1) hx hb hr (fun t9 ht9 _ => ⟨⟨_, (S, f), rfl, ⟨(by simp [h9, l2]), (by rw [if_neg (by rw [h9]; decide)]), fun z => absurd (h9.symm.trans z) (by decide)⟩, ⟨show cW G S t9.heap by rw [ht9]; exact hW, show oW G o f t9.heap by rw [ht9]; exact hO⟩⟩, hS.F ht9⟩) hS.2.2 dL_trust_25
  · have hS := hS
    obtain ⟨h9, hr9, hu⟩ := hu
    subst hr9
    refine bv_if_eq (b := (ti (S.1 (129 + 5 * cn x) 2) (cn y))) (tgt := 17) hx hb dL_trust_10 (by decide) (fun c_10 => ?_) (fun c_10 => ?_)
    · refine lv_lconst (v := 0) hx hb dL_trust_17 (by decide) ?_
      refine hv_out hx hb hK hW hO ho hS dL_trust_18 (fun H locs hW hO hS => ?_)
      refine lv_goto (tgt := 26) hx hb dL_trust_19 (by decide) ?_
      refine lv_iconst (v := nI 0) hx hb dL_trust_26 (by decide) ?_
      exact W.iret (v := nI 0) hx hb hr (fun t9 ht9 _ => ⟨⟨_, (u9, (vp_updL f 0 0)), rfl, ⟨(by simp [h9, l2]), (by rw [if_pos h9]; exact hu), fun _ => by simp [vp_updL, c_10]⟩, ⟨show cW G u9 t9.heap by rw [ht9]; exact hW, show oW G o (vp_updL f 0 0) t9.heap by rw [ht9]; exact hO⟩⟩, hS.F ht9⟩) hS.2.2 dL_trust_27
    · refine lv_lconst (v := 1) hx hb dL_trust_13 (by decide) ?_
      refine lv_goto (tgt := 18) hx hb dL_trust_14 (by decide) ?_
      refine hv_out hx hb hK hW hO ho hS dL_trust_18 (fun H locs hW hO hS => ?_)
      refine lv_goto (tgt := 26) hx hb dL_trust_19 (by decide) ?_
      refine lv_iconst (v := nI 0) hx hb dL_trust_26 (by decide) ?_
      exact W.iret (v := nI 0) hx hb hr (fun t9 ht9 _ => ⟨⟨_, (u9, (vp_updL f 0 1)), rfl, ⟨(by simp [h9, l2]), (by rw [if_pos h9]; exact hu), fun _ => by simp [vp_updL, c_10]⟩, ⟨show cW G u9 t9.heap by rw [ht9]; exact hW, show oW G o (vp_updL f 0 1) t9.heap by rw [ht9]; exact hO⟩⟩, hS.F ht9⟩) hS.2.2 dL_trust_27

set_option maxHeartbeats 4000000 in
set_option maxRecDepth 100000 in
theorem k_L_heads (l : Launch) (hlt : l.stackTraces = false) (G : GT) (S : SS) (sz o : Nat) (f : Nat → Int64) (ho : oOk G o) {rc : Nat} (hrc : S.1 139 4 = nI rc) (h40 : rc ≤ 40) (x y : Int32) : Met l yL_heads wsL_heads ({ frames := 8, cells := 8, slots := 48, locals := 126 } : Room) (va_Pc [.ref (gA G 139), .int x, .int y, .ref o] (fun U => U.heap.size = sz ∧ hP G S o f U)) (va_Qi (fun r u => r = nI (cdHeads x y) ∧ u.1 = S ∧ (cdHeads x y = 0 → u.2 0 = ltG S (memG S (cn x) (cn y) 4 0 0) rc 0 (memG S (cn x) (cn y) 4 0 0))) (hB G o) (gO G o sz)) 8 48 (gO G o sz) := by
  refine va_MetW (cc := cL_heads) (maxL := 5) (ret := (some .int)) (hh := [(0, 9, 12, 13)]) (by decide) rfl ?_
  intro p e s m args below meth c s₁ B hml hv
  obtain ⟨rfl, hsz, hW, hK, hO, hn⟩ := hv
  subst hsz
  have hx := B.exec
  have hb := B.bytes
  have hr := B.returns
  have hts := atoms_spec (ws := wsL_heads) B.pre
  have htab := vx_table (x := yL_heads) B (hts (.codeWith yL_heads cL_heads 5 (some .int) [(0, 9, 12, 13)]) List.mem_cons_self)
  have hown : s.vm.findClass RL = some m.cls := findClass_of_methodNamed B.named
  have hS : va_S (gF G s.heap.size) s.heap s.heap [] := va_S.rf
  have hl := lv_entry ([.ref (gA G 139), .int x, .int y, .ref o]) (n := 5) (Nat.le_of_ble_eq_true rfl)
  rw [lg_entry_eq]
  generalize (lg_sl ([.ref (gA G 139), .int x, .int y, .ref o]) ++ List.replicate (5 - (lg_sl ([.ref (gA G 139), .int x, .int y, .ref o])).length) Slot.unset).toArray = ls at hl ⊢
  have hl : lv_has ls 5 [(0, .ref (gA G 139)), (1, .int x), (2, .int y), (3, .ref o)] := hl
  refine lv_aload_n hx hb dL_heads_0 rfl (lv_at hl 3 rfl) ?_
  refine lv_iconst (v := nI 0) hx hb dL_heads_1 (by decide) ?_
  refine lv_aload_n hx hb dL_heads_2 rfl (lv_at hl 0 rfl) ?_
  refine lv_iload_n hx hb dL_heads_3 rfl (lv_at hl 1 rfl) ?_
  refine lv_iload_n hx hb dL_heads_4 rfl (lv_at hl 2 rfl) ?_
  refine hv_sl hW hO (vx_runV (As := [.int x, .int y]) (rest := [.int (nI 0), .ref o]) ⟨hx, hb, hml, hown, hts⟩ (k_X2_heads l hlt G S hrc h40 x y) (cwV 2 hts gL_heads_X2_heads rfl rfl rfl (by decide +kernel) ⟨Nat.le_of_ble_eq_true rfl, Nat.le_of_ble_eq_true rfl⟩) ⟨cP_blind, c_recv hW hK (k := 139) (ci := 2) cw_O rfl, cP_at hW hK hS⟩ rfl rfl hl.1 rfl (lv_room (Nat.le_of_ble_eq_true rfl)) dL_heads_5 ⟨Nat.le_of_ble_eq_true rfl, Nat.le_of_ble_eq_true rfl⟩) (fun E ce q H locs hE hW hO hS hce hcv hcl => ?_) (fun r9 hu => ?_)
  · have hcd : cdHeads x y = 0 ∨ cdHeads x y = 1 := by unfold cdHeads; (repeat' split) <;> simp
    rcases hcd with h9 | h9
    · exact absurd h9 hE.2
    · have hE9 : E = eN := hE.1.trans (by rw [h9]; rfl)
      subst hE9
      refine hc_N hown htab (by decide) (hts (.classLink RL 13 eN) (by decide +kernel)) hK hce hcv hcl ?_
      refine lv_astore (lv' := [(4, .ref q), (0, .ref (gA G 139)), (1, .int x), (2, .int y), (3, .ref o)]) hx hb dL_heads_12 hl (by decide) rfl (fun ls hl => ?_)
      refine lv_iconst (v := nI 1) hx hb dL_heads_14 (by decide) ?_
      exact W.iret (v := nI 1) hx hb hr (fun t9 ht9 _ => ⟨⟨_, (S, f), rfl, ⟨(by simp [h9, l2]), rfl, fun z => absurd (h9.symm.trans z) (by decide)⟩, ⟨show cW G S t9.heap by rw [ht9]; exact hW, show oW G o f t9.heap by rw [ht9]; exact hO⟩⟩, hS.F ht9⟩) hS.2.2 dL_heads_15
  · have hS : va_S (gO G o s.heap.size) s.heap s.heap [] := va_S.rf
    obtain ⟨h9, hr9⟩ := hu
    subst hr9
    refine hv_out hx hb hK hW hO ho hS dL_heads_8 (fun H locs hW hO hS => ?_)
    refine lv_goto (tgt := 16) hx hb dL_heads_9 (by decide) ?_
    refine lv_iconst (v := nI 0) hx hb dL_heads_16 (by decide) ?_
    exact W.iret (v := nI 0) hx hb hr (fun t9 ht9 _ => ⟨⟨_, (S, (vp_updL f 0 (ltG S (memG S (cn x) (cn y) 4 0 0) rc 0 (memG S (cn x) (cn y) 4 0 0)))), rfl, ⟨(by simp [h9, l2]), rfl, fun _ => vp_updL0 f _⟩, ⟨show cW G S t9.heap by rw [ht9]; exact hW, show oW G o (vp_updL f 0 (ltG S (memG S (cn x) (cn y) 4 0 0) rc 0 (memG S (cn x) (cn y) 4 0 0))) t9.heap by rw [ht9]; exact hO⟩⟩, hS.F ht9⟩) hS.2.2 dL_heads_17

set_option maxHeartbeats 4000000 in
set_option maxRecDepth 100000 in
theorem k_L_exchange (l : Launch) (hlt : l.stackTraces = false) (G : GT) (S : SS) (sz o : Nat) (f : Nat → Int64) (ho : oOk G o) {rc : Nat} (hrc : S.1 139 4 = nI rc) (h40 : rc ≤ 40) (x : Int32) : Met l yL_exchange wsL_exchange ({ frames := 8, cells := 8, slots := 48, locals := 127 } : Room) (va_Pc [.ref (gA G 139), .int x, .ref o] (fun U => U.heap.size = sz ∧ hP G S o f U)) (va_Qi (fun r u => r = nI (cdExch x) ∧ u.1 = (if cdExch x = 0 then (doExch S rc (cn x)).2 else S) ∧ (cdExch x = 0 → u.2 0 = ((doExch S rc (cn x)).1).toInt64)) (hB G o) (gO G o sz)) 8 48 (gO G o sz) := by
  refine va_MetW (cc := cL_exchange) (maxL := 4) (ret := (some .int)) (hh := [(0, 9, 12, 13)]) (by decide) rfl ?_
  intro p e s m args below meth c s₁ B hml hv
  obtain ⟨rfl, hsz, hW, hK, hO, hn⟩ := hv
  subst hsz
  have hx := B.exec
  have hb := B.bytes
  have hr := B.returns
  have hts := atoms_spec (ws := wsL_exchange) B.pre
  have htab := vx_table (x := yL_exchange) B (hts (.codeWith yL_exchange cL_exchange 4 (some .int) [(0, 9, 12, 13)]) List.mem_cons_self)
  have hown : s.vm.findClass RL = some m.cls := findClass_of_methodNamed B.named
  have hS : va_S (gF G s.heap.size) s.heap s.heap [] := va_S.rf
  have hl := lv_entry ([.ref (gA G 139), .int x, .ref o]) (n := 4) (Nat.le_of_ble_eq_true rfl)
  rw [lg_entry_eq]
  generalize (lg_sl ([.ref (gA G 139), .int x, .ref o]) ++ List.replicate (4 - (lg_sl ([.ref (gA G 139), .int x, .ref o])).length) Slot.unset).toArray = ls at hl ⊢
  have hl : lv_has ls 4 [(0, .ref (gA G 139)), (1, .int x), (2, .ref o)] := hl
  refine lv_aload_n hx hb dL_exchange_0 rfl (lv_at hl 2 rfl) ?_
  refine lv_iconst (v := nI 0) hx hb dL_exchange_1 (by decide) ?_
  refine lv_aload_n hx hb dL_exchange_2 rfl (lv_at hl 0 rfl) ?_
  refine lv_iload_n hx hb dL_exchange_3 rfl (lv_at hl 1 rfl) ?_
  refine hv_i hW hO ho (vx_runV (As := [.int x]) (rest := [.int (nI 0), .ref o]) ⟨hx, hb, hml, hown, hts⟩ (k_X2_exchange l hlt G S s.heap.size hrc h40 x) (cwV 1 hts gL_exchange_X2_exchange rfl rfl rfl (by decide +kernel) ⟨Nat.le_of_ble_eq_true rfl, Nat.le_of_ble_eq_true rfl⟩) ⟨cQ_blind, c_recv hW hK (k := 139) (ci := 2) cw_O rfl, cQ_at hW hK hS⟩ rfl rfl hl.1 rfl (lv_room (Nat.le_of_ble_eq_true rfl)) dL_exchange_4 ⟨Nat.le_of_ble_eq_true rfl, Nat.le_of_ble_eq_true rfl⟩) (fun E ce q H locs hE hW hO hS hce hcv hcl => ?_) (fun r9 u9 H locs hu hW hO hS => ?_)
  · have hcd : cdExch x = 0 ∨ cdExch x = 1 := by unfold cdExch; (repeat' split) <;> simp
    rcases hcd with h9 | h9
    · exact absurd h9 hE.2
    · have hE9 : E = eN := hE.1.trans (by rw [h9]; rfl)
      subst hE9
      refine hc_N hown htab (by decide) (hts (.classLink RL 13 eN) (by decide +kernel)) hK hce hcv hcl ?_
      refine lv_astore_n (lv' := [(3, .ref q), (0, .ref (gA G 139)), (1, .int x), (2, .ref o)]) hx hb dL_exchange_12 rfl hl (by decide) rfl (fun ls hl => ?_)
      refine lv_iconst (v := nI 1) hx hb dL_exchange_13 (by decide) ?_
      exact W.iret (v := nI 1) hx hb hr (fun t9 ht9 _ => ⟨⟨_, (S, f), rfl, ⟨(by simp [h9, l2]), (by rw [if_neg (by rw [h9]; decide)]), fun z => absurd (h9.symm.trans z) (by decide)⟩, ⟨show cW G S t9.heap by rw [ht9]; exact hW, show oW G o f t9.heap by rw [ht9]; exact hO⟩⟩, hS.F ht9⟩) hS.2.2 dL_exchange_14
  · have hS := hS
    obtain ⟨h9, hr9, hu⟩ := hu
    subst hr9
    refine lv_i2l (v := ((doExch S rc (cn x)).1).toInt64) hx hb dL_exchange_7 rfl ?_
    refine hv_out hx hb hK hW hO ho hS dL_exchange_8 (fun H locs hW hO hS => ?_)
    refine lv_goto (tgt := 15) hx hb dL_exchange_9 (by decide) ?_
    refine lv_iconst (v := nI 0) hx hb dL_exchange_15 (by decide) ?_
    exact W.iret (v := nI 0) hx hb hr (fun t9 ht9 _ => ⟨⟨_, (u9, (vp_updL f 0 (((doExch S rc (cn x)).1).toInt64))), rfl, ⟨(by simp [h9, l2]), (by rw [if_pos h9]; exact hu), fun _ => vp_updL0 f _⟩, ⟨show cW G u9 t9.heap by rw [ht9]; exact hW, show oW G o (vp_updL f 0 (((doExch S rc (cn x)).1).toInt64)) t9.heap by rw [ht9]; exact hO⟩⟩, hS.F ht9⟩) hS.2.2 dL_exchange_16

set_option maxHeartbeats 4000000 in
set_option maxRecDepth 100000 in
theorem k_L_has (l : Launch) (hlt : l.stackTraces = false) (G : GT) (S : SS) (sz o : Nat) (f : Nat → Int64) (ho : oOk G o) (x : Int32) : Met l yL_has wsL_has ({ frames := 8, cells := 8, slots := 48, locals := 124 } : Room) (va_Pc [.ref (gA G 139), .int x, .ref o] (fun U => U.heap.size = sz ∧ hP G S o f U)) (va_Qi (fun r u => r = nI (cdHas x) ∧ u.1 = S ∧ (cdHas x = 0 → u.2 0 = S.2 (129 + 5 * cn x) 0)) (hB G o) (gO G o sz)) 8 48 (gO G o sz) := by
  refine va_MetW (cc := cL_has) (maxL := 4) (ret := (some .int)) (hh := [(0, 8, 11, 13)]) (by decide) rfl ?_
  intro p e s m args below meth c s₁ B hml hv
  obtain ⟨rfl, hsz, hW, hK, hO, hn⟩ := hv
  subst hsz
  have hx := B.exec
  have hb := B.bytes
  have hr := B.returns
  have hts := atoms_spec (ws := wsL_has) B.pre
  have htab := vx_table (x := yL_has) B (hts (.codeWith yL_has cL_has 4 (some .int) [(0, 8, 11, 13)]) List.mem_cons_self)
  have hown : s.vm.findClass RL = some m.cls := findClass_of_methodNamed B.named
  have hS : va_S (gF G s.heap.size) s.heap s.heap [] := va_S.rf
  have hl := lv_entry ([.ref (gA G 139), .int x, .ref o]) (n := 4) (Nat.le_of_ble_eq_true rfl)
  rw [lg_entry_eq]
  generalize (lg_sl ([.ref (gA G 139), .int x, .ref o]) ++ List.replicate (4 - (lg_sl ([.ref (gA G 139), .int x, .ref o])).length) Slot.unset).toArray = ls at hl ⊢
  have hl : lv_has ls 4 [(0, .ref (gA G 139)), (1, .int x), (2, .ref o)] := hl
  refine lv_aload_n hx hb dL_has_0 rfl (lv_at hl 2 rfl) ?_
  refine lv_iconst (v := nI 0) hx hb dL_has_1 (by decide) ?_
  refine lv_aload_n hx hb dL_has_2 rfl (lv_at hl 0 rfl) ?_
  refine lv_iload_n hx hb dL_has_3 rfl (lv_at hl 1 rfl) ?_
  refine hv_sl hW hO (vx_runV (As := [.int x]) (rest := [.int (nI 0), .ref o]) ⟨hx, hb, hml, hown, hts⟩ (k_X2_has l hlt G S x) (cwV 1 hts gL_has_X2_has rfl rfl rfl (by decide +kernel) ⟨Nat.le_of_ble_eq_true rfl, Nat.le_of_ble_eq_true rfl⟩) ⟨cP_blind, c_recv hW hK (k := 139) (ci := 2) cw_O rfl, cP_at hW hK hS⟩ rfl rfl hl.1 rfl (lv_room (Nat.le_of_ble_eq_true rfl)) dL_has_4 ⟨Nat.le_of_ble_eq_true rfl, Nat.le_of_ble_eq_true rfl⟩) (fun E ce q H locs hE hW hO hS hce hcv hcl => ?_) (fun r9 hu => ?_)
  · have hcd : cdHas x = 0 ∨ cdHas x = 1 := by unfold cdHas; (repeat' split) <;> simp
    rcases hcd with h9 | h9
    · exact absurd h9 hE.2
    · have hE9 : E = eN := hE.1.trans (by rw [h9]; rfl)
      subst hE9
      refine hc_N hown htab (by decide) (hts (.classLink RL 13 eN) (by decide +kernel)) hK hce hcv hcl ?_
      refine lv_astore_n (lv' := [(3, .ref q), (0, .ref (gA G 139)), (1, .int x), (2, .ref o)]) hx hb dL_has_11 rfl hl (by decide) rfl (fun ls hl => ?_)
      refine lv_iconst (v := nI 1) hx hb dL_has_12 (by decide) ?_
      exact W.iret (v := nI 1) hx hb hr (fun t9 ht9 _ => ⟨⟨_, (S, f), rfl, ⟨(by simp [h9, l2]), rfl, fun z => absurd (h9.symm.trans z) (by decide)⟩, ⟨show cW G S t9.heap by rw [ht9]; exact hW, show oW G o f t9.heap by rw [ht9]; exact hO⟩⟩, hS.F ht9⟩) hS.2.2 dL_has_13
  · have hS : va_S (gO G o s.heap.size) s.heap s.heap [] := va_S.rf
    obtain ⟨h9, hr9⟩ := hu
    subst hr9
    refine hv_out hx hb hK hW hO ho hS dL_has_7 (fun H locs hW hO hS => ?_)
    refine lv_goto (tgt := 14) hx hb dL_has_8 (by decide) ?_
    refine lv_iconst (v := nI 0) hx hb dL_has_14 (by decide) ?_
    exact W.iret (v := nI 0) hx hb hr (fun t9 ht9 _ => ⟨⟨_, (S, (vp_updL f 0 (S.2 (129 + 5 * cn x) 0))), rfl, ⟨(by simp [h9, l2]), rfl, fun _ => vp_updL0 f _⟩, ⟨show cW G S t9.heap by rw [ht9]; exact hW, show oW G o (vp_updL f 0 (S.2 (129 + 5 * cn x) 0)) t9.heap by rw [ht9]; exact hO⟩⟩, hS.F ht9⟩) hS.2.2 dL_has_15
