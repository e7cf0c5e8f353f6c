set_option maxHeartbeats 4000000 in
set_option maxRecDepth 100000 in
theorem k_X1_lowestAt (l : Launch) (G : GT) (S : SS) {t : Nat} (ht : t < 43) (x : Int32) : Met l yX1_lowestAt wsX1_lowestAt ({ frames := 2, cells := 0, slots := 0, locals := 43 } : Room) (va_Pc [.ref (gA G (3 * t)), .int x] (cP G S)) (vp_Si (fun r => r = lowG (fun j => ti (S.1 (3 * t) 0) j && (S.1 (3 * t + 1) (j * 3) == x)) 15 1)) 0 0 (fun _ => False) := by
  refine Met.ofW (cc := cX1_lowestAt) (maxL := 3) (ret := (some .int)) (by decide) rfl ?_
  intro p e s m args below meth c s₁ B hml hv
  obtain ⟨rfl, hW, hK⟩ := hv
  have hx := B.exec
  have hb := B.bytes
  have hr := B.returns
  have hts := atoms_spec (ws := wsX1_lowestAt) B.pre
  have hown : s.vm.findClass RX1 = some m.cls := findClass_of_methodNamed B.named
  have hlocks := B.notSynchronized
  have hS : va_S (gF G s.heap.size) s.heap s.heap [] := va_S.rf
  have hl := lv_entry ([.ref (gA G (3 * t)), .int x]) (n := 3) (Nat.le_of_ble_eq_true rfl)
  rw [lg_entry_eq]
  generalize (lg_sl ([.ref (gA G (3 * t)), .int x]) ++ List.replicate (3 - (lg_sl ([.ref (gA G (3 * t)), .int x])).length) Slot.unset).toArray = ls at hl ⊢
  have hl : lv_has ls 3 [(0, .ref (gA G (3 * t))), (1, .int x)] := hl
  have LP : ∀ (n : Nat) (i : Nat), (1 ≤ i) → (i + n = 16) → ∀ (ls : Array Slot), lv_has ls 3 [(0, .ref (gA G (3 * t))), (1, .int x), (2, .int (nI i))] → W p l e (headSpec wsX1_lowestAt ({ frames := 2, cells := 0, slots := 0, locals := 43 } : Room)).room s m ([.ref (gA G (3 * t)), .int x] : List Value).toArray below meth c s.heap [] 0 0 (MQ below (vp_Si (fun r => r = lowG (fun j => ti (S.1 (3 * t) 0) j && (S.1 (3 * t + 1) (j * 3) == x)) n i)) ([.ref (gA G (3 * t)), .int x] : List Value).toArray s 0 0 (fun _ => False)) (F0 m 2 ls []) := by
    intro n
    induction n with
    | zero =>
      intro i h1 h2 ls hl
      refine lv_iload_n hx hb dX1_lowestAt_2 rfl (lv_at hl 2 rfl) ?_
      refine lv_bipush (v := nI 16) hx hb dX1_lowestAt_3 (by decide) ?_
      refine nv_icmp_ge (tgt := 34) hx hb (by omega) (by omega) dX1_lowestAt_5 (by decide) (fun c_5 => ?_) (fun c_5 => ?_)
      · refine lv_iconst (v := (-1)) hx hb dX1_lowestAt_34 (by decide) ?_
        exact W.iret (v := (-1)) hx hb hr (fun t9 ht9 _ => ⟨_, rfl, rfl, ht9⟩) (fun _ h => by cases h) dX1_lowestAt_35
      · exact absurd c_5 (by omega)
    | succ n ih =>
      intro i h1 h2 ls hl
      refine lv_iload_n hx hb dX1_lowestAt_2 rfl (lv_at hl 2 rfl) ?_
      refine lv_bipush (v := nI 16) hx hb dX1_lowestAt_3 (by decide) ?_
      refine nv_icmp_ge (tgt := 34) hx hb (by omega) (by omega) dX1_lowestAt_5 (by decide) (fun c_5 => ?_) (fun c_5 => ?_)
      · exact absurd c_5 (by omega)
      · refine lv_aload_n hx hb dX1_lowestAt_8 rfl (lv_at hl 0 rfl) ?_
        refine lv_iload_n hx hb dX1_lowestAt_9 rfl (lv_at hl 2 rfl) ?_
        refine pv_i (va_runV (As := [.int (nI i)]) (rest := []) ⟨hx, hb, hml, hown, hts⟩ (k_X1_isAlive l G S (t := t) (by omega) (nI i)) (cwV 1 hts gX1_lowestAt_X1_isAlive rfl rfl rfl (by decide +kernel) ⟨Nat.le_of_ble_eq_true rfl, Nat.le_of_ble_eq_true rfl⟩) ⟨cP_blind, c_recv hW hK (k := (3 * t)) (ci := 1) (cw_T (t := t) (by omega)) rfl, cP_at hW hK hS⟩ rfl rfl hl.1 rfl (lv_room (Nat.le_of_ble_eq_true rfl)) dX1_lowestAt_10 ⟨Nat.le_of_ble_eq_true rfl, Nat.le_of_ble_eq_true rfl⟩) (fun r_1 hr_1 => ?_)
        rw [aliveB_nI S t (by omega)] at hr_1
        subst hr_1
        refine bv_if_eq (b := ti (S.1 (3 * t) 0) i) (tgt := 28) hx hb dX1_lowestAt_13 (by decide) (fun c_13 => ?_) (fun c_13 => ?_)
        · refine lv_iinc (v := nI (i + 1)) (lv' := [(2, .int (nI (i + 1))), (0, .ref (gA G (3 * t))), (1, .int x)]) hx hb dX1_lowestAt_28 hl (k := 2) rfl (nI_add i 1) (by decide) rfl (fun ls hl => ?_)
          refine lv_goto (tgt := 2) hx hb dX1_lowestAt_31 (by decide) ?_
          have E : lowG (fun j => ti (S.1 (3 * t) 0) j && (S.1 (3 * t + 1) (j * 3) == x)) (n + 1) i = lowG (fun j => ti (S.1 (3 * t) 0) j && (S.1 (3 * t + 1) (j * 3) == x)) n (i + 1) := by rw [lowG, if_neg (by simp [c_13])]
          rw [E]
          exact ih (i + 1) (by omega) (by omega) ls (lv_sub hl [1, 2, 0] rfl)
        · refine lv_aload_n hx hb dX1_lowestAt_16 rfl (lv_at hl 0 rfl) ?_
          refine lv_iload_n hx hb dX1_lowestAt_17 rfl (lv_at hl 2 rfl) ?_
          refine lv_iconst (v := nI 0) hx hb dX1_lowestAt_18 (by decide) ?_
          refine pv_i (va_runV (As := [.int (nI i), .int (nI 0)]) (rest := []) ⟨hx, hb, hml, hown, hts⟩ (k_X1_valueOf l G S (t := t) (by omega) (n := i) (w := 0) (by omega) (by omega)) (cwV 2 hts gX1_lowestAt_X1_valueOf rfl rfl rfl (by decide +kernel) ⟨Nat.le_of_ble_eq_true rfl, Nat.le_of_ble_eq_true rfl⟩) ⟨cP_blind, c_recv hW hK (k := (3 * t)) (ci := 1) (cw_T (t := t) (by omega)) rfl, cP_at hW hK hS⟩ rfl rfl hl.1 rfl (lv_room (Nat.le_of_ble_eq_true rfl)) dX1_lowestAt_19 ⟨Nat.le_of_ble_eq_true rfl, Nat.le_of_ble_eq_true rfl⟩) (fun r_2 hr_2 => ?_)
          have hr_2 : r_2 = S.1 (3 * t + 1) (i * 3) := hr_2
          subst hr_2
          refine lv_iload_n hx hb dX1_lowestAt_22 rfl (lv_at hl 1 rfl) ?_
          refine lv_icmp_ne (tgt := 28) hx hb dX1_lowestAt_23 (by decide) (fun c_23 => ?_) (fun c_23 => ?_)
          · refine lv_iinc (v := nI (i + 1)) (lv' := [(2, .int (nI (i + 1))), (0, .ref (gA G (3 * t))), (1, .int x)]) hx hb dX1_lowestAt_28 hl (k := 2) rfl (nI_add i 1) (by decide) rfl (fun ls hl => ?_)
            refine lv_goto (tgt := 2) hx hb dX1_lowestAt_31 (by decide) ?_
            have E : lowG (fun j => ti (S.1 (3 * t) 0) j && (S.1 (3 * t + 1) (j * 3) == x)) (n + 1) i = lowG (fun j => ti (S.1 (3 * t) 0) j && (S.1 (3 * t + 1) (j * 3) == x)) n (i + 1) := by rw [lowG, if_neg (by simp [c_13, c_23])]
            rw [E]
            exact ih (i + 1) (by omega) (by omega) ls (lv_sub hl [1, 2, 0] rfl)
          · refine lv_iload_n hx hb dX1_lowestAt_26 rfl (lv_at hl 2 rfl) ?_
            exact W.iret (v := nI i) hx hb hr (fun t9 ht9 _ => ⟨_, rfl, (by unfold lowG; rw [if_pos (by simp [c_13, c_23])]), ht9⟩) (fun _ h => by cases h) dX1_lowestAt_27
  refine lv_iconst (v := nI 1) hx hb dX1_lowestAt_0 (by decide) ?_
  refine lv_istore_n (lv' := [(2, .int (nI 1)), (0, .ref (gA G (3 * t))), (1, .int x)]) hx hb dX1_lowestAt_1 rfl hl (by decide) rfl (fun ls hl => ?_)
  exact LP 15 1 (by omega) (by omega) ls (lv_sub hl [1, 2, 0] rfl)

set_option maxHeartbeats 4000000 in
set_option maxRecDepth 100000 in
theorem k_X1_isParent (l : Launch) (G : GT) (S : SS) {t : Nat} (ht : t < 43) (x : Int32) : Met l yX1_isParent wsX1_isParent ({ frames := 3, cells := 0, slots := 0, locals := 65 } : Room) (va_Pc [.ref (gA G (3 * t)), .int x] (cP G S)) (vp_Si (fun r => r = bI (anyG (fun j => ti (S.1 (3 * t) 0) j && (dP (S.1 (3 * t + 1) (j * 3)) == x)) 15 1))) 0 0 (fun _ => False) := by
  refine Met.ofW (cc := cX1_isParent) (maxL := 3) (ret := (some .boolean)) (by decide) rfl ?_
  intro p e s m args below meth c s₁ B hml hv
  obtain ⟨rfl, hW, hK⟩ := hv
  have hx := B.exec
  have hb := B.bytes
  have hr := B.returns
  have hts := atoms_spec (ws := wsX1_isParent) B.pre
  have hown : s.vm.findClass RX1 = some m.cls := findClass_of_methodNamed B.named
  have hlocks := B.notSynchronized
  have hS : va_S (gF G s.heap.size) s.heap s.heap [] := va_S.rf
  have hl := lv_entry ([.ref (gA G (3 * t)), .int x]) (n := 3) (Nat.le_of_ble_eq_true rfl)
  rw [lg_entry_eq]
  generalize (lg_sl ([.ref (gA G (3 * t)), .int x]) ++ List.replicate (3 - (lg_sl ([.ref (gA G (3 * t)), .int x])).length) Slot.unset).toArray = ls at hl ⊢
  have hl : lv_has ls 3 [(0, .ref (gA G (3 * t))), (1, .int x)] := hl
  have LP : ∀ (n : Nat) (i : Nat), (1 ≤ i) → (i + n = 16) → ∀ (ls : Array Slot), lv_has ls 3 [(0, .ref (gA G (3 * t))), (1, .int x), (2, .int (nI i))] → W p l e (headSpec wsX1_isParent ({ frames := 3, cells := 0, slots := 0, locals := 65 } : Room)).room s m ([.ref (gA G (3 * t)), .int x] : List Value).toArray below meth c s.heap [] 0 0 (MQ below (vp_Si (fun r => r = bI (anyG (fun j => ti (S.1 (3 * t) 0) j && (dP (S.1 (3 * t + 1) (j * 3)) == x)) n i))) ([.ref (gA G (3 * t)), .int x] : List Value).toArray s 0 0 (fun _ => False)) (F0 m 2 ls []) := by
    intro n
    induction n with
    | zero =>
      intro i h1 h2 ls hl
      refine lv_iload_n hx hb dX1_isParent_2 rfl (lv_at hl 2 rfl) ?_
      refine lv_bipush (v := nI 16) hx hb dX1_isParent_3 (by decide) ?_
      refine nv_icmp_ge (tgt := 33) hx hb (by omega) (by omega) dX1_isParent_5 (by decide) (fun c_5 => ?_) (fun c_5 => ?_)
      · refine lv_iconst (v := nI 0) hx hb dX1_isParent_33 (by decide) ?_
        exact W.zret (v := nI 0) hx hb hr rfl (fun t9 ht9 _ => ⟨_, rfl, (bI_i0 rfl), ht9⟩) (fun _ h => by cases h) dX1_isParent_34
      · exact absurd c_5 (by omega)
    | succ n ih =>
      intro i h1 h2 ls hl
      refine lv_iload_n hx hb dX1_isParent_2 rfl (lv_at hl 2 rfl) ?_
      refine lv_bipush (v := nI 16) hx hb dX1_isParent_3 (by decide) ?_
      refine nv_icmp_ge (tgt := 33) hx hb (by omega) (by omega) dX1_isParent_5 (by decide) (fun c_5 => ?_) (fun c_5 => ?_)
      · exact absurd c_5 (by omega)
      · refine lv_aload_n hx hb dX1_isParent_8 rfl (lv_at hl 0 rfl) ?_
        refine lv_iload_n hx hb dX1_isParent_9 rfl (lv_at hl 2 rfl) ?_
        refine pv_i (va_runV (As := [.int (nI i)]) (rest := []) ⟨hx, hb, hml, hown, hts⟩ (k_X1_isAlive l G S (t := t) (by omega) (nI i)) (cwV 1 hts gX1_isParent_X1_isAlive rfl rfl rfl (by decide +kernel) ⟨Nat.le_of_ble_eq_true rfl, Nat.le_of_ble_eq_true rfl⟩) ⟨cP_blind, c_recv hW hK (k := (3 * t)) (ci := 1) (cw_T (t := t) (by omega)) rfl, cP_at hW hK hS⟩ rfl rfl hl.1 rfl (lv_room (Nat.le_of_ble_eq_true rfl)) dX1_isParent_10 ⟨Nat.le_of_ble_eq_true rfl, Nat.le_of_ble_eq_true rfl⟩) (fun r_1 hr_1 => ?_)
        rw [aliveB_nI S t (by omega)] at hr_1
        subst hr_1
        refine bv_if_eq (b := ti (S.1 (3 * t) 0) i) (tgt := 27) hx hb dX1_isParent_13 (by decide) (fun c_13 => ?_) (fun c_13 => ?_)
        · refine lv_iinc (v := nI (i + 1)) (lv' := [(2, .int (nI (i + 1))), (0, .ref (gA G (3 * t))), (1, .int x)]) hx hb dX1_isParent_27 hl (k := 2) rfl (nI_add i 1) (by decide) rfl (fun ls hl => ?_)
          refine lv_goto (tgt := 2) hx hb dX1_isParent_30 (by decide) ?_
          have E : anyG (fun j => ti (S.1 (3 * t) 0) j && (dP (S.1 (3 * t + 1) (j * 3)) == x)) (n + 1) i = anyG (fun j => ti (S.1 (3 * t) 0) j && (dP (S.1 (3 * t + 1) (j * 3)) == x)) n (i + 1) := by rw [anyG]; simp [c_13]
          rw [E]
          exact ih (i + 1) (by omega) (by omega) ls (lv_sub hl [1, 2, 0] rfl)
        · refine lv_aload_n hx hb dX1_isParent_16 rfl (lv_at hl 0 rfl) ?_
          refine lv_iload_n hx hb dX1_isParent_17 rfl (lv_at hl 2 rfl) ?_
          refine pv_i (va_runV (As := [.int (nI i)]) (rest := []) ⟨hx, hb, hml, hown, hts⟩ (k_X1_parentOf l G S (t := t) (by omega) (n := i) (by omega)) (cwV 1 hts gX1_isParent_X1_parentOf rfl rfl rfl (by decide +kernel) ⟨Nat.le_of_ble_eq_true rfl, Nat.le_of_ble_eq_true rfl⟩) ⟨cP_blind, c_recv hW hK (k := (3 * t)) (ci := 1) (cw_T (t := t) (by omega)) rfl, cP_at hW hK hS⟩ rfl rfl hl.1 rfl (lv_room (Nat.le_of_ble_eq_true rfl)) dX1_isParent_18 ⟨Nat.le_of_ble_eq_true rfl, Nat.le_of_ble_eq_true rfl⟩) (fun r_2 hr_2 => ?_)
          have hr_2 : r_2 = dP (S.1 (3 * t + 1) (i * 3)) := hr_2
          subst hr_2
          refine lv_iload_n hx hb dX1_isParent_21 rfl (lv_at hl 1 rfl) ?_
          refine lv_icmp_ne (tgt := 27) hx hb dX1_isParent_22 (by decide) (fun c_22 => ?_) (fun c_22 => ?_)
          · refine lv_iinc (v := nI (i + 1)) (lv' := [(2, .int (nI (i + 1))), (0, .ref (gA G (3 * t))), (1, .int x)]) hx hb dX1_isParent_27 hl (k := 2) rfl (nI_add i 1) (by decide) rfl (fun ls hl => ?_)
            refine lv_goto (tgt := 2) hx hb dX1_isParent_30 (by decide) ?_
            have E : anyG (fun j => ti (S.1 (3 * t) 0) j && (dP (S.1 (3 * t + 1) (j * 3)) == x)) (n + 1) i = anyG (fun j => ti (S.1 (3 * t) 0) j && (dP (S.1 (3 * t + 1) (j * 3)) == x)) n (i + 1) := by rw [anyG]; simp [c_13, c_22]
            rw [E]
            exact ih (i + 1) (by omega) (by omega) ls (lv_sub hl [1, 2, 0] rfl)
          · refine lv_iconst (v := nI 1) hx hb dX1_isParent_25 (by decide) ?_
            exact W.zret (v := nI 1) hx hb hr rfl (fun t9 ht9 _ => ⟨_, rfl, (bI_i1 (by rw [anyG]; simp [c_13, c_22])), ht9⟩) (fun _ h => by cases h) dX1_isParent_26
  refine lv_iconst (v := nI 1) hx hb dX1_isParent_0 (by decide) ?_
  refine lv_istore_n (lv' := [(2, .int (nI 1)), (0, .ref (gA G (3 * t))), (1, .int x)]) hx hb dX1_isParent_1 rfl hl (by decide) rfl (fun ls hl => ?_)
  exact LP 15 1 (by omega) (by omega) ls (lv_sub hl [1, 2, 0] rfl)

set_option maxHeartbeats 4000000 in
set_option maxRecDepth 100000 in
theorem k_X1_leadsTo (l : Launch) (G : GT) (S : SS) {t : Nat} (ht : t < 43) (x y : Int32) : Met l yX1_leadsTo wsX1_leadsTo ({ frames := 3, cells := 0, slots := 0, locals := 65 } : Room) (va_Pc [.ref (gA G (3 * t)), .int x, .int y] (cP G S)) (vp_Si (fun r => r = bI (leadG S t y 16 x))) 0 0 (fun _ => False) := by
  refine Met.ofW (cc := cX1_leadsTo) (maxL := 5) (ret := (some .boolean)) (by decide) rfl ?_
  intro p e s m args below meth c s₁ B hml hv
  obtain ⟨rfl, hW, hK⟩ := hv
  have hx := B.exec
  have hb := B.bytes
  have hr := B.returns
  have hts := atoms_spec (ws := wsX1_leadsTo) B.pre
  have hown : s.vm.findClass RX1 = some m.cls := findClass_of_methodNamed B.named
  have hlocks := B.notSynchronized
  have hS : va_S (gF G s.heap.size) s.heap s.heap [] := va_S.rf
  have hl := lv_entry ([.ref (gA G (3 * t)), .int x, .int y]) (n := 5) (Nat.le_of_ble_eq_true rfl)
  rw [lg_entry_eq]
  generalize (lg_sl ([.ref (gA G (3 * t)), .int x, .int y]) ++ List.replicate (5 - (lg_sl ([.ref (gA G (3 * t)), .int x, .int y])).length) Slot.unset).toArray = ls at hl ⊢
  have hl : lv_has ls 5 [(0, .ref (gA G (3 * t))), (1, .int x), (2, .int y)] := hl
  have LP : ∀ (n : Nat) (i : Nat) (a : Int32), (i + n = 16) → ∀ (ls : Array Slot), lv_has ls 5 [(0, .ref (gA G (3 * t))), (2, .int y), (3, .int a), (4, .int (nI i))] → W p l e (headSpec wsX1_leadsTo ({ frames := 3, cells := 0, slots := 0, locals := 65 } : Room)).room s m ([.ref (gA G (3 * t)), .int x, .int y] : List Value).toArray below meth c s.heap [] 0 0 (MQ below (vp_Si (fun r => r = bI (leadG S t y n a))) ([.ref (gA G (3 * t)), .int x, .int y] : List Value).toArray s 0 0 (fun _ => False)) (F0 m 5 ls []) := by
    intro n
    induction n with
    | zero =>
      intro i a h2 ls hl
      refine lv_iload hx hb dX1_leadsTo_5 (lv_at hl 3 rfl) ?_
      refine lv_bipush (v := nI 16) hx hb dX1_leadsTo_7 (by decide) ?_
      refine nv_icmp_ge (tgt := 39) hx hb (by omega) (by omega) dX1_leadsTo_9 (by decide) (fun c_9 => ?_) (fun c_9 => ?_)
      · refine lv_iconst (v := nI 0) hx hb dX1_leadsTo_39 (by decide) ?_
        exact W.zret (v := nI 0) hx hb hr rfl (fun t9 ht9 _ => ⟨_, rfl, (bI_i0 rfl), ht9⟩) (fun _ h => by cases h) dX1_leadsTo_40
      · exact absurd c_9 (by omega)
    | succ n ih =>
      intro i a h2 ls hl
      refine lv_iload hx hb dX1_leadsTo_5 (lv_at hl 3 rfl) ?_
      refine lv_bipush (v := nI 16) hx hb dX1_leadsTo_7 (by decide) ?_
      refine nv_icmp_ge (tgt := 39) hx hb (by omega) (by omega) dX1_leadsTo_9 (by decide) (fun c_9 => ?_) (fun c_9 => ?_)
      · exact absurd c_9 (by omega)
      · refine lv_aload_n hx hb dX1_leadsTo_12 rfl (lv_at hl 0 rfl) ?_
        refine lv_iload_n hx hb dX1_leadsTo_13 rfl (lv_at hl 2 rfl) ?_
        refine pv_i (va_runV (As := [.int a]) (rest := []) ⟨hx, hb, hml, hown, hts⟩ (k_X1_isAlive l G S (t := t) (by omega) a) (cwV 1 hts gX1_leadsTo_X1_isAlive rfl rfl rfl (by decide +kernel) ⟨Nat.le_of_ble_eq_true rfl, Nat.le_of_ble_eq_true rfl⟩) ⟨cP_blind, c_recv hW hK (k := (3 * t)) (ci := 1) (cw_T (t := t) (by omega)) rfl, cP_at hW hK hS⟩ rfl rfl hl.1 rfl (lv_room (Nat.le_of_ble_eq_true rfl)) dX1_leadsTo_14 ⟨Nat.le_of_ble_eq_true rfl, Nat.le_of_ble_eq_true rfl⟩) (fun r_1 hr_1 => ?_)
        subst hr_1
        refine bv_if_eq (b := aliveB S t a) (tgt := 39) hx hb dX1_leadsTo_17 (by decide) (fun c_17 => ?_) (fun c_17 => ?_)
        · refine lv_iconst (v := nI 0) hx hb dX1_leadsTo_39 (by decide) ?_
          exact W.zret (v := nI 0) hx hb hr rfl (fun t9 ht9 _ => ⟨_, rfl, (bI_i0 (by rw [leadG, if_neg (by rw [c_17]; exact Bool.false_ne_true)])), ht9⟩) (fun _ h => by cases h) dX1_leadsTo_40
        · obtain ⟨j, hj, rfl⟩ := aliveB_of c_17
          refine lv_iload_n hx hb dX1_leadsTo_20 rfl (lv_at hl 2 rfl) ?_
          refine lv_iload_n hx hb dX1_leadsTo_21 rfl (lv_at hl 1 rfl) ?_
          refine lv_icmp_ne (tgt := 27) hx hb dX1_leadsTo_22 (by decide) (fun c_22 => ?_) (fun c_22 => ?_)
          · refine lv_aload_n hx hb dX1_leadsTo_27 rfl (lv_at hl 0 rfl) ?_
            refine lv_iload_n hx hb dX1_leadsTo_28 rfl (lv_at hl 2 rfl) ?_
            refine pv_i (va_runV (As := [.int (nI j)]) (rest := []) ⟨hx, hb, hml, hown, hts⟩ (k_X1_parentOf l G S (t := t) (by omega) (n := j) (by omega)) (cwV 1 hts gX1_leadsTo_X1_parentOf rfl rfl rfl (by decide +kernel) ⟨Nat.le_of_ble_eq_true rfl, Nat.le_of_ble_eq_true rfl⟩) ⟨cP_blind, c_recv hW hK (k := (3 * t)) (ci := 1) (cw_T (t := t) (by omega)) rfl, cP_at hW hK hS⟩ rfl rfl hl.1 rfl (lv_room (Nat.le_of_ble_eq_true rfl)) dX1_leadsTo_29 ⟨Nat.le_of_ble_eq_true rfl, Nat.le_of_ble_eq_true rfl⟩) (fun r_2 hr_2 => ?_)
            have hr_2 : r_2 = dP (S.1 (3 * t + 1) (j * 3)) := hr_2
            subst hr_2
            refine lv_istore_n (lv' := [(3, .int (dP (S.1 (3 * t + 1) (j * 3)))), (0, .ref (gA G (3 * t))), (2, .int y), (4, .int (nI i))]) hx hb dX1_leadsTo_32 rfl hl (by decide) rfl (fun ls hl => ?_)
            refine lv_iinc (v := nI (i + 1)) (lv' := [(4, .int (nI (i + 1))), (3, .int (dP (S.1 (3 * t + 1) (j * 3)))), (0, .ref (gA G (3 * t))), (2, .int y)]) hx hb dX1_leadsTo_33 hl (k := 3) rfl (nI_add i 1) (by decide) rfl (fun ls hl => ?_)
            refine lv_goto (tgt := 5) hx hb dX1_leadsTo_36 (by decide) ?_
            have E : leadG S t y (n + 1) (nI j) = leadG S t y n (dP (S.1 (3 * t + 1) (j * 3))) := by rw [leadG, if_pos c_17, if_neg c_22, nI_clamp (by omega)]
            rw [E]
            exact ih (i + 1) _ (by omega) ls (lv_sub hl [2, 3, 1, 0] rfl)
          · refine lv_iconst (v := nI 1) hx hb dX1_leadsTo_25 (by decide) ?_
            exact W.zret (v := nI 1) hx hb hr rfl (fun t9 ht9 _ => ⟨_, rfl, (bI_i1 (by rw [leadG, if_pos c_17, if_pos c_22])), ht9⟩) (fun _ h => by cases h) dX1_leadsTo_26
  refine lv_iload_n hx hb dX1_leadsTo_0 rfl (lv_at hl 1 rfl) ?_
  refine lv_istore_n (lv' := [(3, .int x), (0, .ref (gA G (3 * t))), (1, .int x), (2, .int y)]) hx hb dX1_leadsTo_1 rfl hl (by decide) rfl (fun ls hl => ?_)
  refine lv_iconst (v := nI 0) hx hb dX1_leadsTo_2 (by decide) ?_
  refine lv_istore (lv' := [(4, .int (nI 0)), (3, .int x), (0, .ref (gA G (3 * t))), (1, .int x), (2, .int y)]) hx hb dX1_leadsTo_3 hl (by decide) rfl (fun ls hl => ?_)
  exact LP 16 0 x (by omega) ls (lv_sub hl [2, 4, 1, 0] rfl)

set_option maxHeartbeats 4000000 in
set_option maxRecDepth 100000 in
theorem k_X1_plant (l : Launch) (G : GT) (S : SS) (sz : Nat) {t : Nat} (ht : t < 43) {n : Nat} (hn : n < 16) (x : Int32) : Met l yX1_plant wsX1_plant ({ frames := 2, cells := 0, slots := 0, locals := 44 } : Room) (va_Pc [.ref (gA G (3 * t)), .int (nI n), .int x] (fun U => U.heap.size = sz ∧ cP G S U)) (va_Qv (fun S' => S' = plantS S t n x) (cB G) (gF G sz)) 0 0 (gF G sz) := by
  refine Met.ofW (cc := cX1_plant) (maxL := 3) (ret := none) (by decide) rfl ?_
  intro p e s m args below meth c s₁ B hml hv
  obtain ⟨rfl, hsz, hW, hK⟩ := hv
  subst hsz
  have hx := B.exec
  have hb := B.bytes
  have hr := B.returns
  have hts := atoms_spec (ws := wsX1_plant) B.pre
  have hown : s.vm.findClass RX1 = some m.cls := findClass_of_methodNamed B.named
  have hlocks := B.notSynchronized
  have hS : va_S (gF G s.heap.size) s.heap s.heap [] := va_S.rf
  have inX1 : ∀ w ∈ u_ws RX1 TX1 3, w ∈ wsX1_plant := by decide +kernel
  have hl := lv_entry ([.ref (gA G (3 * t)), .int (nI n), .int x]) (n := 3) (Nat.le_of_ble_eq_true rfl)
  rw [lg_entry_eq]
  generalize (lg_sl ([.ref (gA G (3 * t)), .int (nI n), .int x]) ++ List.replicate (3 - (lg_sl ([.ref (gA G (3 * t)), .int (nI n), .int x])).length) Slot.unset).toArray = ls at hl ⊢
  have hl : lv_has ls 3 [(0, .ref (gA G (3 * t))), (1, .int (nI n)), (2, .int x)] := hl
  refine lv_aload_n hx hb dX1_plant_0 rfl (lv_at hl 0 rfl) ?_
  refine lv_dup hx hb dX1_plant_1 rfl ?_
  refine va_get (D := gD G) (ci := 1) (v := .int (S.1 (3 * t) 0)) (C := RX1) (T := TX1) (N := 3) hx hb hts inX1 hown hK.1 hW (3 * t) (cw_T (t := t) (by omega)) rfl 0 (by decide) (hts (.fieldLink RX1 9 "MarkedTrees$Tree" "alive" "I") (by decide +kernel)) (fun _ h9 => h9) rfl dX1_plant_2 ?_
  refine lv_iconst (v := nI 1) hx hb dX1_plant_5 (by decide) ?_
  refine lv_iload_n hx hb dX1_plant_6 rfl (lv_at hl 1 rfl) ?_
  refine lv_ishl hx hb dX1_plant_7 ?_
  refine lv_ior hx hb dX1_plant_8 ?_
  refine va_put (D := gD G) (ci := 1) (v := .int ((S.1 (3 * t) 0) ||| ((nI 1) <<< ((nI n) &&& 31)))) (ty := .int) (C := RX1) (T := TX1) (N := 3) hx hb hts inX1 tyX1 tyX1_ok nmX1 hown hK.1 hW (wl_D hK.2.1) hS (3 * t) (cw_T (t := t) (by omega)) rfl 0 (by decide) (hts (.fieldLink RX1 9 "MarkedTrees$Tree" "alive" "I") (by decide +kernel)) (fun _ h9 => h9) rfl (by decide +kernel) rfl rfl (Nat.le_of_ble_eq_true rfl) dX1_plant_9 (fun H locs hW _ hS => ?_)
  have hW : cW G (s1 S (3 * t) 0 ((S.1 (3 * t) 0) ||| ((nI 1) <<< ((nI n) &&& 31)))) H := cp_T_0 (by omega) hW
  obtain ⟨S_1, eS_1⟩ : ∃ z, z = s1 S (3 * t) 0 ((S.1 (3 * t) 0) ||| ((nI 1) <<< ((nI n) &&& 31))) := ⟨_, rfl⟩
  rw [← eS_1] at hW
  refine lv_aload_n hx hb dX1_plant_12 rfl (lv_at hl 0 rfl) ?_
  refine lv_iload_n hx hb dX1_plant_13 rfl (lv_at hl 1 rfl) ?_
  refine lv_iconst (v := nI 0) hx hb dX1_plant_14 (by decide) ?_
  refine lv_iload_n hx hb dX1_plant_15 rfl (lv_at hl 2 rfl) ?_
  refine ev_v (va_runV (As := [.int (nI n), .int (nI 0), .int x]) (rest := []) ⟨hx, hb, hml, hown, hts⟩ (k_X1_setValue l G S_1 H.size (t := t) (by omega) (n := n) (w := 0) (by omega) (by omega) x) (cwV 3 hts gX1_plant_X1_setValue rfl rfl rfl (by decide +kernel) ⟨Nat.le_of_ble_eq_true rfl, Nat.le_of_ble_eq_true rfl⟩) ⟨cQ_blind, c_recv hW hK (k := (3 * t)) (ci := 1) (cw_T (t := t) (by omega)) rfl, cQ_at hW hK hS⟩ rfl rfl hl.1 rfl (lv_room (Nat.le_of_ble_eq_true rfl)) dX1_plant_16 ⟨Nat.le_of_ble_eq_true rfl, Nat.le_of_ble_eq_true rfl⟩) hS (fun S_2 t9 H locs ht9 hS_2 hW hS => ?_)
  have hW : cW G S_2 H := ht9 ▸ hW
  refine lv_aload_n hx hb dX1_plant_19 rfl (lv_at hl 0 rfl) ?_
  refine lv_iload_n hx hb dX1_plant_20 rfl (lv_at hl 1 rfl) ?_
  refine lv_iconst (v := nI 1) hx hb dX1_plant_21 (by decide) ?_
  refine lv_iconst (v := nI 0) hx hb dX1_plant_22 (by decide) ?_
  refine ev_v (va_runV (As := [.int (nI n), .int (nI 1), .int (nI 0)]) (rest := []) ⟨hx, hb, hml, hown, hts⟩ (k_X1_setValue l G S_2 H.size (t := t) (by omega) (n := n) (w := 1) (by omega) (by omega) (nI 0)) (cwV 3 hts gX1_plant_X1_setValue rfl rfl rfl (by decide +kernel) ⟨Nat.le_of_ble_eq_true rfl, Nat.le_of_ble_eq_true rfl⟩) ⟨cQ_blind, c_recv hW hK (k := (3 * t)) (ci := 1) (cw_T (t := t) (by omega)) rfl, cQ_at hW hK hS⟩ rfl rfl hl.1 rfl (lv_room (Nat.le_of_ble_eq_true rfl)) dX1_plant_23 ⟨Nat.le_of_ble_eq_true rfl, Nat.le_of_ble_eq_true rfl⟩) hS (fun S_3 t9 H locs ht9 hS_3 hW hS => ?_)
  have hW : cW G S_3 H := ht9 ▸ hW
  refine lv_aload_n hx hb dX1_plant_26 rfl (lv_at hl 0 rfl) ?_
  refine lv_iload_n hx hb dX1_plant_27 rfl (lv_at hl 1 rfl) ?_
  refine lv_iconst (v := nI 2) hx hb dX1_plant_28 (by decide) ?_
  refine lv_iconst (v := nI 0) hx hb dX1_plant_29 (by decide) ?_
  refine ev_v (va_runV (As := [.int (nI n), .int (nI 2), .int (nI 0)]) (rest := []) ⟨hx, hb, hml, hown, hts⟩ (k_X1_setValue l G S_3 H.size (t := t) (by omega) (n := n) (w := 2) (by omega) (by omega) (nI 0)) (cwV 3 hts gX1_plant_X1_setValue rfl rfl rfl (by decide +kernel) ⟨Nat.le_of_ble_eq_true rfl, Nat.le_of_ble_eq_true rfl⟩) ⟨cQ_blind, c_recv hW hK (k := (3 * t)) (ci := 1) (cw_T (t := t) (by omega)) rfl, cQ_at hW hK hS⟩ rfl rfl hl.1 rfl (lv_room (Nat.le_of_ble_eq_true rfl)) dX1_plant_30 ⟨Nat.le_of_ble_eq_true rfl, Nat.le_of_ble_eq_true rfl⟩) hS (fun S_4 t9 H locs ht9 hS_4 hW hS => ?_)
  have hW : cW G S_4 H := ht9 ▸ hW
  exact W.vret hx hb hr (fun t9 ht9 _ => ⟨⟨S_4, rfl, (by subst_vars; rfl), (show cW G S_4 t9.heap by rw [ht9]; exact hW)⟩, hS.F ht9⟩) hS.2.2 dX1_plant_33

set_option maxHeartbeats 4000000 in
set_option maxRecDepth 100000 in
theorem k_X1_takeOut (l : Launch) (G : GT) (S : SS) (sz : Nat) {t : Nat} (ht : t < 43) {n : Nat} (hn : n < 16) : Met l yX1_takeOut wsX1_takeOut ({ frames := 0, cells := 0, slots := 0, locals := 0 } : Room) (va_Pc [.ref (gA G (3 * t)), .int (nI n)] (fun U => U.heap.size = sz ∧ cP G S U)) (va_Qv (fun S' => S' = s1 S (3 * t) 0 (S.1 (3 * t) 0 &&& ((nI 1 <<< (nI n &&& 31)) ^^^ (-1)))) (cB G) (gF G sz)) 0 0 (gF G sz) := by
  refine Met.ofW (cc := cX1_takeOut) (maxL := 2) (ret := none) (by decide) rfl ?_
  intro p e s m args below meth c s₁ B hml hv
  obtain ⟨rfl, hsz, hW, hK⟩ := hv
  subst hsz
  have hx := B.exec
  have hb := B.bytes
  have hr := B.returns
  have hts := atoms_spec (ws := wsX1_takeOut) B.pre
  have hown : s.vm.findClass RX1 = some m.cls := findClass_of_methodNamed B.named
  have hlocks := B.notSynchronized
  have hS : va_S (gF G s.heap.size) s.heap s.heap [] := va_S.rf
  have inX1 : ∀ w ∈ u_ws RX1 TX1 3, w ∈ wsX1_takeOut := by decide +kernel
  have hl := lv_entry ([.ref (gA G (3 * t)), .int (nI n)]) (n := 2) (Nat.le_of_ble_eq_true rfl)
  rw [lg_entry_eq]
  generalize (lg_sl ([.ref (gA G (3 * t)), .int (nI n)]) ++ List.replicate (2 - (lg_sl ([.ref (gA G (3 * t)), .int (nI n)])).length) Slot.unset).toArray = ls at hl ⊢
  have hl : lv_has ls 2 [(0, .ref (gA G (3 * t))), (1, .int (nI n))] := hl
  refine lv_aload_n hx hb dX1_takeOut_0 rfl (lv_at hl 0 rfl) ?_
  refine lv_dup hx hb dX1_takeOut_1 rfl ?_
  refine va_get (D := gD G) (ci := 1) (v := .int (S.1 (3 * t) 0)) (C := RX1) (T := TX1) (N := 3) hx hb hts inX1 hown hK.1 hW (3 * t) (cw_T (t := t) (by omega)) rfl 0 (by decide) (hts (.fieldLink RX1 9 "MarkedTrees$Tree" "alive" "I") (by decide +kernel)) (fun _ h9 => h9) rfl dX1_takeOut_2 ?_
  refine lv_iconst (v := nI 1) hx hb dX1_takeOut_5 (by decide) ?_
  refine lv_iload_n hx hb dX1_takeOut_6 rfl (lv_at hl 1 rfl) ?_
  refine lv_ishl hx hb dX1_takeOut_7 ?_
  refine lv_iconst (v := (-1)) hx hb dX1_takeOut_8 (by decide) ?_
  refine lv_ixor hx hb dX1_takeOut_9 ?_
  refine lv_iand hx hb dX1_takeOut_10 ?_
  refine va_put (D := gD G) (ci := 1) (v := .int ((S.1 (3 * t) 0) &&& (((nI 1) <<< ((nI n) &&& 31)) ^^^ (-1)))) (ty := .int) (C := RX1) (T := TX1) (N := 3) hx hb hts inX1 tyX1 tyX1_ok nmX1 hown hK.1 hW (wl_D hK.2.1) hS (3 * t) (cw_T (t := t) (by omega)) rfl 0 (by decide) (hts (.fieldLink RX1 9 "MarkedTrees$Tree" "alive" "I") (by decide +kernel)) (fun _ h9 => h9) rfl (by decide +kernel) rfl rfl (Nat.le_of_ble_eq_true rfl) dX1_takeOut_11 (fun H locs hW _ hS => ?_)
  have hW : cW G (s1 S (3 * t) 0 ((S.1 (3 * t) 0) &&& (((nI 1) <<< ((nI n) &&& 31)) ^^^ (-1)))) H := cp_T_0 (by omega) hW
  obtain ⟨S_1, eS_1⟩ : ∃ z, z = s1 S (3 * t) 0 ((S.1 (3 * t) 0) &&& (((nI 1) <<< ((nI n) &&& 31)) ^^^ (-1))) := ⟨_, rfl⟩
  rw [← eS_1] at hW
  exact W.vret hx hb hr (fun t9 ht9 _ => ⟨⟨S_1, rfl, eS_1, (show cW G S_1 t9.heap by rw [ht9]; exact hW)⟩, hS.F ht9⟩) hS.2.2 dX1_takeOut_14

set_option maxHeartbeats 4000000 in
set_option maxRecDepth 100000 in
theorem k_X1_clear (l : Launch) (G : GT) (S : SS) (sz : Nat) {t : Nat} (ht : t < 43) : Met l yX1_clear wsX1_clear ({ frames := 0, cells := 0, slots := 0, locals := 0 } : Room) (va_Pc [.ref (gA G (3 * t))] (fun U => U.heap.size = sz ∧ cP G S U)) (va_Qv (fun S' => S' = s1 S (3 * t) 0 (nI 1)) (cB G) (gF G sz)) 0 0 (gF G sz) := by
  refine Met.ofW (cc := cX1_clear) (maxL := 1) (ret := none) (by decide) rfl ?_
  intro p e s m args below meth c s₁ B hml hv
  obtain ⟨rfl, hsz, hW, hK⟩ := hv
  subst hsz
  have hx := B.exec
  have hb := B.bytes
  have hr := B.returns
  have hts := atoms_spec (ws := wsX1_clear) B.pre
  have hown : s.vm.findClass RX1 = some m.cls := findClass_of_methodNamed B.named
  have hlocks := B.notSynchronized
  have hS : va_S (gF G s.heap.size) s.heap s.heap [] := va_S.rf
  have inX1 : ∀ w ∈ u_ws RX1 TX1 3, w ∈ wsX1_clear := by decide +kernel
  have hl := lv_entry ([.ref (gA G (3 * t))]) (n := 1) (Nat.le_of_ble_eq_true rfl)
  rw [lg_entry_eq]
  generalize (lg_sl ([.ref (gA G (3 * t))]) ++ List.replicate (1 - (lg_sl ([.ref (gA G (3 * t))])).length) Slot.unset).toArray = ls at hl ⊢
  have hl : lv_has ls 1 [(0, .ref (gA G (3 * t)))] := hl
  refine lv_aload_n hx hb dX1_clear_0 rfl (lv_at hl 0 rfl) ?_
  refine lv_iconst (v := nI 1) hx hb dX1_clear_1 (by decide) ?_
  refine va_put (D := gD G) (ci := 1) (v := .int (nI 1)) (ty := .int) (C := RX1) (T := TX1) (N := 3) hx hb hts inX1 tyX1 tyX1_ok nmX1 hown hK.1 hW (wl_D hK.2.1) hS (3 * t) (cw_T (t := t) (by omega)) rfl 0 (by decide) (hts (.fieldLink RX1 9 "MarkedTrees$Tree" "alive" "I") (by decide +kernel)) (fun _ h9 => h9) rfl (by decide +kernel) rfl rfl (Nat.le_of_ble_eq_true rfl) dX1_clear_2 (fun H locs hW _ hS => ?_)
  have hW : cW G (s1 S (3 * t) 0 (nI 1)) H := cp_T_0 (by omega) hW
  obtain ⟨S_1, eS_1⟩ : ∃ z, z = s1 S (3 * t) 0 (nI 1) := ⟨_, rfl⟩
  rw [← eS_1] at hW
  exact W.vret hx hb hr (fun t9 ht9 _ => ⟨⟨S_1, rfl, eS_1, (show cW G S_1 t9.heap by rw [ht9]; exact hW)⟩, hS.F ht9⟩) hS.2.2 dX1_clear_5

set_option maxHeartbeats 4000000 in
set_option maxRecDepth 100000 in
theorem k_X1_copyNode (l : Launch) (G : GT) (S : SS) (sz : Nat) {t : Nat} (ht : t < 43) {u : Nat} (hu : u < 43) {n : Nat} (hn : n < 16) : Met l yX1_copyNode wsX1_copyNode ({ frames := 2, cells := 0, slots := 0, locals := 45 } : Room) (va_Pc [.ref (gA G (3 * t)), .ref (gA G (3 * u)), .int (nI n)] (fun U => U.heap.size = sz ∧ cP G S U)) (va_Qv (fun S' => S' = cnS S t u n) (cB G) (gF G sz)) 0 0 (gF G sz) := by
  refine Met.ofW (cc := cX1_copyNode) (maxL := 4) (ret := none) (by decide) rfl ?_
  intro p e s m args below meth c s₁ B hml hv
  obtain ⟨rfl, hsz, hW, hK⟩ := hv
  subst hsz
  have hx := B.exec
  have hb := B.bytes
  have hr := B.returns
  have hts := atoms_spec (ws := wsX1_copyNode) B.pre
  have hown : s.vm.findClass RX1 = some m.cls := findClass_of_methodNamed B.named
  have hlocks := B.notSynchronized
  have hS : va_S (gF G s.heap.size) s.heap s.heap [] := va_S.rf
  have inX1 : ∀ w ∈ u_ws RX1 TX1 3, w ∈ wsX1_copyNode := by decide +kernel
  have hl := lv_entry ([.ref (gA G (3 * t)), .ref (gA G (3 * u)), .int (nI n)]) (n := 4) (Nat.le_of_ble_eq_true rfl)
  rw [lg_entry_eq]
  generalize (lg_sl ([.ref (gA G (3 * t)), .ref (gA G (3 * u)), .int (nI n)]) ++ List.replicate (4 - (lg_sl ([.ref (gA G (3 * t)), .ref (gA G (3 * u)), .int (nI n)])).length) Slot.unset).toArray = ls at hl ⊢
  have hl : lv_has ls 4 [(0, .ref (gA G (3 * t))), (1, .ref (gA G (3 * u))), (2, .int (nI n))] := hl
  have LP : ∀ (k : Nat) (w : Nat) (Q : SS) (H : Heap) (locs : List Loc), (cW G Q H) → (va_S (gF G s.heap.size) s.heap H locs) → (w + k = 3) → ∀ (ls : Array Slot), lv_has ls 4 [(0, .ref (gA G (3 * t))), (1, .ref (gA G (3 * u))), (2, .int (nI n)), (3, .int (nI w))] → W p l e (headSpec wsX1_copyNode ({ frames := 2, cells := 0, slots := 0, locals := 45 } : Room)).room s m ([.ref (gA G (3 * t)), .ref (gA G (3 * u)), .int (nI n)] : List Value).toArray below meth c H locs 0 0 (MQ below (va_Qv (fun S' => S' = cnG t u n k w Q) (cB G) (gF G s.heap.size)) ([.ref (gA G (3 * t)), .ref (gA G (3 * u)), .int (nI n)] : List Value).toArray s 0 0 (gF G s.heap.size)) (F0 m 14 ls []) := by
    intro k
    induction k with
    | zero =>
      intro w Q H locs hW hS h2 ls hl
      refine lv_iload_n hx hb dX1_copyNode_14 rfl (lv_at hl 3 rfl) ?_
      refine lv_iconst (v := nI 3) hx hb dX1_copyNode_15 (by decide) ?_
      refine nv_icmp_ge (tgt := 49) hx hb (by omega) (by omega) dX1_copyNode_16 (by decide) (fun c_16 => ?_) (fun c_16 => ?_)
      · exact W.vret hx hb hr (fun t9 ht9 _ => ⟨⟨Q, rfl, rfl, (show cW G Q t9.heap by rw [ht9]; exact hW)⟩, hS.F ht9⟩) hS.2.2 dX1_copyNode_49
      · exact absurd c_16 (by omega)
    | succ k ih =>
      intro w Q H locs hW hS h2 ls hl
      refine lv_iload_n hx hb dX1_copyNode_14 rfl (lv_at hl 3 rfl) ?_
      refine lv_iconst (v := nI 3) hx hb dX1_copyNode_15 (by decide) ?_
      refine nv_icmp_ge (tgt := 49) hx hb (by omega) (by omega) dX1_copyNode_16 (by decide) (fun c_16 => ?_) (fun c_16 => ?_)
      · exact absurd c_16 (by omega)
      · refine lv_aload_n hx hb dX1_copyNode_19 rfl (lv_at hl 0 rfl) ?_
        refine lv_iload_n hx hb dX1_copyNode_20 rfl (lv_at hl 2 rfl) ?_
        refine lv_iload_n hx hb dX1_copyNode_21 rfl (lv_at hl 3 rfl) ?_
        refine lv_aload_n hx hb dX1_copyNode_22 rfl (lv_at hl 1 rfl) ?_
        refine lv_iload_n hx hb dX1_copyNode_23 rfl (lv_at hl 2 rfl) ?_
        refine lv_iload_n hx hb dX1_copyNode_24 rfl (lv_at hl 3 rfl) ?_
        refine pv_i (va_runV (As := [.int (nI n), .int (nI w)]) (rest := [.int (nI w), .int (nI n), .ref (gA G (3 * t))]) ⟨hx, hb, hml, hown, hts⟩ (k_X1_valueOf l G Q (t := u) (by omega) (n := n) (w := w) (by omega) (by omega)) (cwV 2 hts gX1_copyNode_X1_valueOf rfl rfl rfl (by decide +kernel) ⟨Nat.le_of_ble_eq_true rfl, Nat.le_of_ble_eq_true rfl⟩) ⟨cP_blind, c_recv hW hK (k := (3 * u)) (ci := 1) (cw_T (t := u) (by omega)) rfl, cP_at hW hK hS⟩ rfl rfl hl.1 rfl (lv_room (Nat.le_of_ble_eq_true rfl)) dX1_copyNode_25 ⟨Nat.le_of_ble_eq_true rfl, Nat.le_of_ble_eq_true rfl⟩) (fun r_1 hr_1 => ?_)
        have hr_1 : r_1 = Q.1 (3 * u + 1) (n * 3 + w) := hr_1
        subst hr_1
        refine ev_v (va_runV (As := [.int (nI n), .int (nI w), .int (Q.1 (3 * u + 1) (n * 3 + w))]) (rest := []) ⟨hx, hb, hml, hown, hts⟩ (k_X1_setValue l G Q H.size (t := t) (by omega) (n := n) (w := w) (by omega) (by omega) (Q.1 (3 * u + 1) (n * 3 + w))) (cwV 3 hts gX1_copyNode_X1_setValue rfl rfl rfl (by decide +kernel) ⟨Nat.le_of_ble_eq_true rfl, Nat.le_of_ble_eq_true rfl⟩) ⟨cQ_blind, c_recv hW hK (k := (3 * t)) (ci := 1) (cw_T (t := t) (by omega)) rfl, cQ_at hW hK hS⟩ rfl rfl hl.1 rfl (lv_room (Nat.le_of_ble_eq_true rfl)) dX1_copyNode_28 ⟨Nat.le_of_ble_eq_true rfl, Nat.le_of_ble_eq_true rfl⟩) hS (fun S_2 t9 H locs ht9 hS_2 hW hS => ?_)
        have hW : cW G S_2 H := ht9 ▸ hW
        refine lv_aload_n hx hb dX1_copyNode_31 rfl (lv_at hl 0 rfl) ?_
        refine lv_iload_n hx hb dX1_copyNode_32 rfl (lv_at hl 2 rfl) ?_
        refine lv_iload_n hx hb dX1_copyNode_33 rfl (lv_at hl 3 rfl) ?_
        refine lv_aload_n hx hb dX1_copyNode_34 rfl (lv_at hl 1 rfl) ?_
        refine lv_iload_n hx hb dX1_copyNode_35 rfl (lv_at hl 2 rfl) ?_
        refine lv_iload_n hx hb dX1_copyNode_36 rfl (lv_at hl 3 rfl) ?_
        refine pv_l (va_runV (As := [.int (nI n), .int (nI w)]) (rest := [.int (nI w), .int (nI n), .ref (gA G (3 * t))]) ⟨hx, hb, hml, hown, hts⟩ (k_X1_marksOf l G S_2 (t := u) (by omega) (n := n) (w := w) (by omega) (by omega)) (cwV 2 hts gX1_copyNode_X1_marksOf rfl rfl rfl (by decide +kernel) ⟨Nat.le_of_ble_eq_true rfl, Nat.le_of_ble_eq_true rfl⟩) ⟨cP_blind, c_recv hW hK (k := (3 * u)) (ci := 1) (cw_T (t := u) (by omega)) rfl, cP_at hW hK hS⟩ rfl rfl hl.1 rfl (lv_room (Nat.le_of_ble_eq_true rfl)) dX1_copyNode_37 ⟨Nat.le_of_ble_eq_true rfl, Nat.le_of_ble_eq_true rfl⟩) (fun r_3 hr_3 => ?_)
        have hr_3 : r_3 = S_2.2 (3 * u + 2) (n * 3 + w) := hr_3
        subst hr_3
        refine ev_v (va_runV (As := [.int (nI n), .int (nI w), .long (S_2.2 (3 * u + 2) (n * 3 + w))]) (rest := []) ⟨hx, hb, hml, hown, hts⟩ (k_X1_setMarks l G S_2 H.size (t := t) (by omega) (n := n) (w := w) (by omega) (by omega) (S_2.2 (3 * u + 2) (n * 3 + w))) (cwV 3 hts gX1_copyNode_X1_setMarks rfl rfl rfl (by decide +kernel) ⟨Nat.le_of_ble_eq_true rfl, Nat.le_of_ble_eq_true rfl⟩) ⟨cQ_blind, c_recv hW hK (k := (3 * t)) (ci := 1) (cw_T (t := t) (by omega)) rfl, cQ_at hW hK hS⟩ rfl rfl hl.1 rfl (lv_room (Nat.le_of_ble_eq_true rfl)) dX1_copyNode_40 ⟨Nat.le_of_ble_eq_true rfl, Nat.le_of_ble_eq_true rfl⟩) hS (fun S_4 t9 H locs ht9 hS_4 hW hS => ?_)
        have hW : cW G S_4 H := ht9 ▸ hW
        refine lv_iinc (v := nI (w + 1)) (lv' := [(3, .int (nI (w + 1))), (0, .ref (gA G (3 * t))), (1, .ref (gA G (3 * u))), (2, .int (nI n))]) hx hb dX1_copyNode_43 hl (k := 3) rfl (nI_add w 1) (by decide) rfl (fun ls hl => ?_)
        refine lv_goto (tgt := 14) hx hb dX1_copyNode_46 (by decide) ?_
        have E : cnG t u n (k + 1) w Q = cnG t u n k (w + 1) S_4 := by subst_vars; rfl
        rw [E]
        exact ih (w + 1) S_4 H locs hW hS (by omega) ls (lv_sub hl [1, 2, 3, 0] rfl)
  refine lv_aload_n hx hb dX1_copyNode_0 rfl (lv_at hl 0 rfl) ?_
  refine lv_dup hx hb dX1_copyNode_1 rfl ?_
  refine va_get (D := gD G) (ci := 1) (v := .int (S.1 (3 * t) 0)) (C := RX1) (T := TX1) (N := 3) hx hb hts inX1 hown hK.1 hW (3 * t) (cw_T (t := t) (by omega)) rfl 0 (by decide) (hts (.fieldLink RX1 9 "MarkedTrees$Tree" "alive" "I") (by decide +kernel)) (fun _ h9 => h9) rfl dX1_copyNode_2 ?_
  refine lv_iconst (v := nI 1) hx hb dX1_copyNode_5 (by decide) ?_
  refine lv_iload_n hx hb dX1_copyNode_6 rfl (lv_at hl 2 rfl) ?_
  refine lv_ishl hx hb dX1_copyNode_7 ?_
  refine lv_ior hx hb dX1_copyNode_8 ?_
  refine va_put (D := gD G) (ci := 1) (v := .int ((S.1 (3 * t) 0) ||| ((nI 1) <<< ((nI n) &&& 31)))) (ty := .int) (C := RX1) (T := TX1) (N := 3) hx hb hts inX1 tyX1 tyX1_ok nmX1 hown hK.1 hW (wl_D hK.2.1) hS (3 * t) (cw_T (t := t) (by omega)) rfl 0 (by decide) (hts (.fieldLink RX1 9 "MarkedTrees$Tree" "alive" "I") (by decide +kernel)) (fun _ h9 => h9) rfl (by decide +kernel) rfl rfl (Nat.le_of_ble_eq_true rfl) dX1_copyNode_9 (fun H locs hW _ hS => ?_)
  have hW : cW G (s1 S (3 * t) 0 ((S.1 (3 * t) 0) ||| ((nI 1) <<< ((nI n) &&& 31)))) H := cp_T_0 (by omega) hW
  obtain ⟨S_5, eS_5⟩ : ∃ z, z = s1 S (3 * t) 0 ((S.1 (3 * t) 0) ||| ((nI 1) <<< ((nI n) &&& 31))) := ⟨_, rfl⟩
  rw [← eS_5] at hW
  refine lv_iconst (v := nI 0) hx hb dX1_copyNode_12 (by decide) ?_
  refine lv_istore_n (lv' := [(3, .int (nI 0)), (0, .ref (gA G (3 * t))), (1, .ref (gA G (3 * u))), (2, .int (nI n))]) hx hb dX1_copyNode_13 rfl hl (by decide) rfl (fun ls hl => ?_)
  have E : cnS S t u n = cnG t u n 3 0 S_5 := by subst_vars; rfl
  rw [E]
  exact LP 3 0 S_5 H locs hW hS (by omega) ls (lv_sub hl [1, 2, 3, 0] rfl)

set_option maxHeartbeats 4000000 in
set_option maxRecDepth 100000 in
theorem k_X1_copyFrom (l : Launch) (G : GT) (S : SS) (sz : Nat) {t : Nat} (ht : t < 43) {u : Nat} (hu : u < 43) : Met l yX1_copyFrom wsX1_copyFrom ({ frames := 1, cells := 0, slots := 0, locals := 60 } : Room) (va_Pc [.ref (gA G (3 * t)), .ref (gA G (3 * u))] (fun U => U.heap.size = sz ∧ cP G S U)) (va_Qv (fun S' => S' = cfS S t u) (cB G) (gF G sz)) 0 0 (gF G sz) := by
  refine Met.ofW (cc := cX1_copyFrom) (maxL := 2) (ret := none) (by decide) rfl ?_
  intro p e s m args below meth c s₁ B hml hv
  obtain ⟨rfl, hsz, hW, hK⟩ := hv
  subst hsz
  have hx := B.exec
  have hb := B.bytes
  have hr := B.returns
  have hts := atoms_spec (ws := wsX1_copyFrom) B.pre
  have hown : s.vm.findClass RX1 = some m.cls := findClass_of_methodNamed B.named
  have hlocks := B.notSynchronized
  have hS : va_S (gF G s.heap.size) s.heap s.heap [] := va_S.rf
  have inX1 : ∀ w ∈ u_ws RX1 TX1 3, w ∈ wsX1_copyFrom := by decide +kernel
  have hl := lv_entry ([.ref (gA G (3 * t)), .ref (gA G (3 * u))]) (n := 2) (Nat.le_of_ble_eq_true rfl)
  rw [lg_entry_eq]
  generalize (lg_sl ([.ref (gA G (3 * t)), .ref (gA G (3 * u))]) ++ List.replicate (2 - (lg_sl ([.ref (gA G (3 * t)), .ref (gA G (3 * u))])).length) Slot.unset).toArray = ls at hl ⊢
  have hl : lv_has ls 2 [(0, .ref (gA G (3 * t))), (1, .ref (gA G (3 * u)))] := hl
  refine lv_aload_n hx hb dX1_copyFrom_0 rfl (lv_at hl 0 rfl) ?_
  refine lv_aload_n hx hb dX1_copyFrom_1 rfl (lv_at hl 1 rfl) ?_
  refine va_get (D := gD G) (ci := 1) (v := .int (S.1 (3 * u) 0)) (C := RX1) (T := TX1) (N := 3) hx hb hts inX1 hown hK.1 hW (3 * u) (cw_T (t := u) (by omega)) rfl 0 (by decide) (hts (.fieldLink RX1 9 "MarkedTrees$Tree" "alive" "I") (by decide +kernel)) (fun _ h9 => h9) rfl dX1_copyFrom_2 ?_
  refine va_put (D := gD G) (ci := 1) (v := .int (S.1 (3 * u) 0)) (ty := .int) (C := RX1) (T := TX1) (N := 3) hx hb hts inX1 tyX1 tyX1_ok nmX1 hown hK.1 hW (wl_D hK.2.1) hS (3 * t) (cw_T (t := t) (by omega)) rfl 0 (by decide) (hts (.fieldLink RX1 9 "MarkedTrees$Tree" "alive" "I") (by decide +kernel)) (fun _ h9 => h9) rfl (by decide +kernel) rfl rfl (Nat.le_of_ble_eq_true rfl) dX1_copyFrom_5 (fun H locs hW _ hS => ?_)
  have hW : cW G (s1 S (3 * t) 0 (S.1 (3 * u) 0)) H := cp_T_0 (by omega) hW
  obtain ⟨S_1, eS_1⟩ : ∃ z, z = s1 S (3 * t) 0 (S.1 (3 * u) 0) := ⟨_, rfl⟩
  rw [← eS_1] at hW
  refine lv_aload_n hx hb dX1_copyFrom_8 rfl (lv_at hl 1 rfl) ?_
  refine va_get (D := gD G) (ci := 1) (v := .ref (gA G (3 * u + 1))) (C := RX1) (T := TX1) (N := 3) hx hb hts inX1 hown hK.1 hW (3 * u) (cw_T (t := u) (by omega)) rfl 1 (by decide) (hts (.fieldLink RX1 15 "MarkedTrees$Tree" "values" "[I") (by decide +kernel)) (fun _ h9 => h9) rfl dX1_copyFrom_9 ?_
  refine lv_iconst (v := nI 0) hx hb dX1_copyFrom_12 (by decide) ?_
  refine lv_aload_n hx hb dX1_copyFrom_13 rfl (lv_at hl 0 rfl) ?_
  refine va_get (D := gD G) (ci := 1) (v := .ref (gA G (3 * t + 1))) (C := RX1) (T := TX1) (N := 3) hx hb hts inX1 hown hK.1 hW (3 * t) (cw_T (t := t) (by omega)) rfl 1 (by decide) (hts (.fieldLink RX1 15 "MarkedTrees$Tree" "values" "[I") (by decide +kernel)) (fun _ h9 => h9) rfl dX1_copyFrom_14 ?_
  refine lv_iconst (v := nI 0) hx hb dX1_copyFrom_17 (by decide) ?_
  refine lv_aload_n hx hb dX1_copyFrom_18 rfl (lv_at hl 0 rfl) ?_
  refine va_get (D := gD G) (ci := 1) (v := .ref (gA G (3 * t + 1))) (C := RX1) (T := TX1) (N := 3) hx hb hts inX1 hown hK.1 hW (3 * t) (cw_T (t := t) (by omega)) rfl 1 (by decide) (hts (.fieldLink RX1 15 "MarkedTrees$Tree" "values" "[I") (by decide +kernel)) (fun _ h9 => h9) rfl dX1_copyFrom_19 ?_
  refine va_alen (v := nI 48) hx hb hK.1 hW (3 * t + 1) 0 (cw_V (t := t) (by omega)) (ty := .int) rfl rfl dX1_copyFrom_22 ?_
  refine va_copyi hx hb (hml.trans hl.1.symm) hown (hts (.methodLink RX1 54 arraycopyName) (by decide +kernel)) (hts (.native arraycopyName) (by decide +kernel)) (hts (.static arraycopyName) (by decide +kernel)) (hts (.initialized "java/lang/System") (by decide +kernel)) hK.1 hW (wl_D hK.2.1) hS (3 * u + 1) (3 * t + 1) 0 0 (cw_V (t := u) (by omega)) (cw_V (t := t) (by omega)) rfl rfl rfl (by decide) (by decide) (by decide) (by decide) (by decide) (fun _ _ => rfl) (Nat.le_of_ble_eq_true rfl) (by decide) dX1_copyFrom_23 (fun H locs hW _ hS => ?_)
  have hW : cW G (r1 S_1 (3 * t + 1) (va_cpy (S_1.1 (3 * u + 1)) (S_1.1 (3 * t + 1)) 0 0 48)) H := cp_Vr (by omega) hW
  obtain ⟨S_2, eS_2⟩ : ∃ z, z = r1 S_1 (3 * t + 1) (va_cpy (S_1.1 (3 * u + 1)) (S_1.1 (3 * t + 1)) 0 0 48) := ⟨_, rfl⟩
  rw [← eS_2] at hW
  refine lv_aload_n hx hb dX1_copyFrom_26 rfl (lv_at hl 1 rfl) ?_
  refine va_get (D := gD G) (ci := 1) (v := .ref (gA G (3 * u + 2))) (C := RX1) (T := TX1) (N := 3) hx hb hts inX1 hown hK.1 hW (3 * u) (cw_T (t := u) (by omega)) rfl 2 (by decide) (hts (.fieldLink RX1 19 "MarkedTrees$Tree" "marksOfValues" "[J") (by decide +kernel)) (fun _ h9 => h9) rfl dX1_copyFrom_27 ?_
  refine lv_iconst (v := nI 0) hx hb dX1_copyFrom_30 (by decide) ?_
  refine lv_aload_n hx hb dX1_copyFrom_31 rfl (lv_at hl 0 rfl) ?_
  refine va_get (D := gD G) (ci := 1) (v := .ref (gA G (3 * t + 2))) (C := RX1) (T := TX1) (N := 3) hx hb hts inX1 hown hK.1 hW (3 * t) (cw_T (t := t) (by omega)) rfl 2 (by decide) (hts (.fieldLink RX1 19 "MarkedTrees$Tree" "marksOfValues" "[J") (by decide +kernel)) (fun _ h9 => h9) rfl dX1_copyFrom_32 ?_
  refine lv_iconst (v := nI 0) hx hb dX1_copyFrom_35 (by decide) ?_
  refine lv_aload_n hx hb dX1_copyFrom_36 rfl (lv_at hl 0 rfl) ?_
  refine va_get (D := gD G) (ci := 1) (v := .ref (gA G (3 * t + 2))) (C := RX1) (T := TX1) (N := 3) hx hb hts inX1 hown hK.1 hW (3 * t) (cw_T (t := t) (by omega)) rfl 2 (by decide) (hts (.fieldLink RX1 19 "MarkedTrees$Tree" "marksOfValues" "[J") (by decide +kernel)) (fun _ h9 => h9) rfl dX1_copyFrom_37 ?_
  refine va_alen (v := nI 48) hx hb hK.1 hW (3 * t + 2) 1 (cw_M (t := t) (by omega)) (ty := .long) rfl rfl dX1_copyFrom_40 ?_
  refine va_copyl hx hb (hml.trans hl.1.symm) hown (hts (.methodLink RX1 54 arraycopyName) (by decide +kernel)) (hts (.native arraycopyName) (by decide +kernel)) (hts (.static arraycopyName) (by decide +kernel)) (hts (.initialized "java/lang/System") (by decide +kernel)) hK.1 hW (wl_D hK.2.1) hS (3 * u + 2) (3 * t + 2) 1 1 (cw_M (t := u) (by omega)) (cw_M (t := t) (by omega)) rfl rfl rfl (by decide) (by decide) (by decide) (by decide) (by decide) (fun _ _ => rfl) (Nat.le_of_ble_eq_true rfl) (by decide) dX1_copyFrom_41 (fun H locs hW _ hS => ?_)
  have hW : cW G (r2 S_2 (3 * t + 2) (va_cpy (S_2.2 (3 * u + 2)) (S_2.2 (3 * t + 2)) 0 0 48)) H := cp_Mr (by omega) hW
  obtain ⟨S_3, eS_3⟩ : ∃ z, z = r2 S_2 (3 * t + 2) (va_cpy (S_2.2 (3 * u + 2)) (S_2.2 (3 * t + 2)) 0 0 48) := ⟨_, rfl⟩
  rw [← eS_3] at hW
  exact W.vret hx hb hr (fun t9 ht9 _ => ⟨⟨S_3, rfl, (by subst_vars; rfl), (show cW G S_3 t9.heap by rw [ht9]; exact hW)⟩, hS.F ht9⟩) hS.2.2 dX1_copyFrom_44

set_option maxHeartbeats 4000000 in
set_option maxRecDepth 100000 in
theorem k_X1_sameAs (l : Launch) (G : GT) (S : SS) {t : Nat} (ht : t < 43) {u : Nat} (hu : u < 43) : Met l yX1_sameAs wsX1_sameAs ({ frames := 2, cells := 0, slots := 0, locals := 43 } : Room) (va_Pc [.ref (gA G (3 * t)), .ref (gA G (3 * u))] (cP G S)) (vp_Si (fun r => r = bI (sameB S t u))) 0 0 (fun _ => False) := by
  refine Met.ofW (cc := cX1_sameAs) (maxL := 4) (ret := (some .boolean)) (by decide) rfl ?_
  intro p e s m args below meth c s₁ B hml hv
  obtain ⟨rfl, hW, hK⟩ := hv
  have hx := B.exec
  have hb := B.bytes
  have hr := B.returns
  have hts := atoms_spec (ws := wsX1_sameAs) B.pre
  have hown : s.vm.findClass RX1 = some m.cls := findClass_of_methodNamed B.named
  have hlocks := B.notSynchronized
  have hS : va_S (gF G s.heap.size) s.heap s.heap [] := va_S.rf
  have inX1 : ∀ w ∈ u_ws RX1 TX1 3, w ∈ wsX1_sameAs := by decide +kernel
  have hl := lv_entry ([.ref (gA G (3 * t)), .ref (gA G (3 * u))]) (n := 4) (Nat.le_of_ble_eq_true rfl)
  rw [lg_entry_eq]
  generalize (lg_sl ([.ref (gA G (3 * t)), .ref (gA G (3 * u))]) ++ List.replicate (4 - (lg_sl ([.ref (gA G (3 * t)), .ref (gA G (3 * u))])).length) Slot.unset).toArray = ls at hl ⊢
  have hl : lv_has ls 4 [(0, .ref (gA G (3 * t))), (1, .ref (gA G (3 * u)))] := hl
  have LP : ∀ (n : Nat) (i : Nat), (1 ≤ i) → (i + n = 16) → ∀ (ls : Array Slot), lv_has ls 4 [(0, .ref (gA G (3 * t))), (1, .ref (gA G (3 * u))), (2, .int (nI i))] → W p l e (headSpec wsX1_sameAs ({ frames := 2, cells := 0, slots := 0, locals := 43 } : Room)).room s m ([.ref (gA G (3 * t)), .ref (gA G (3 * u))] : List Value).toArray below meth c s.heap [] 0 0 (MQ below (vp_Si (fun r => r = bI (allG (fun j => allG (fun w => !ti (S.1 (3 * t) 0) j || (S.1 (3 * t + 1) (j * 3 + w) == S.1 (3 * u + 1) (j * 3 + w))) 3 0) n i))) ([.ref (gA G (3 * t)), .ref (gA G (3 * u))] : List Value).toArray s 0 0 (fun _ => False)) (F0 m 15 ls []) := by
    intro n
    induction n with
    | zero =>
      intro i h1 h2 ls hl
      refine lv_iload_n hx hb dX1_sameAs_15 rfl (lv_at hl 2 rfl) ?_
      refine lv_bipush (v := nI 16) hx hb dX1_sameAs_16 (by decide) ?_
      refine nv_icmp_ge (tgt := 65) hx hb (by omega) (by omega) dX1_sameAs_18 (by decide) (fun c_18 => ?_) (fun c_18 => ?_)
      · refine lv_iconst (v := nI 1) hx hb dX1_sameAs_65 (by decide) ?_
        exact W.zret (v := nI 1) hx hb hr rfl (fun t9 ht9 _ => ⟨_, rfl, (bI_i1 rfl), ht9⟩) (fun _ h => by cases h) dX1_sameAs_66
      · exact absurd c_18 (by omega)
    | succ n ih =>
      intro i h1 h2 ls hl
      refine lv_iload_n hx hb dX1_sameAs_15 rfl (lv_at hl 2 rfl) ?_
      refine lv_bipush (v := nI 16) hx hb dX1_sameAs_16 (by decide) ?_
      refine nv_icmp_ge (tgt := 65) hx hb (by omega) (by omega) dX1_sameAs_18 (by decide) (fun c_18 => ?_) (fun c_18 => ?_)
      · exact absurd c_18 (by omega)
      · refine lv_iconst (v := nI 0) hx hb dX1_sameAs_21 (by decide) ?_
        refine lv_istore_n (lv' := [(3, .int (nI 0)), (0, .ref (gA G (3 * t))), (1, .ref (gA G (3 * u))), (2, .int (nI i))]) hx hb dX1_sameAs_22 rfl hl (by decide) rfl (fun ls hl => ?_)
        have LQ : ∀ (k : Nat) (w : Nat), (w + k = 3) → ∀ (ls : Array Slot), lv_has ls 4 [(0, .ref (gA G (3 * t))), (1, .ref (gA G (3 * u))), (2, .int (nI i)), (3, .int (nI w))] → W p l e (headSpec wsX1_sameAs ({ frames := 2, cells := 0, slots := 0, locals := 43 } : Room)).room s m ([.ref (gA G (3 * t)), .ref (gA G (3 * u))] : List Value).toArray below meth c s.heap [] 0 0 (MQ below (vp_Si (fun r => r = bI (allG (fun w => !ti (S.1 (3 * t) 0) i || (S.1 (3 * t + 1) (i * 3 + w) == S.1 (3 * u + 1) (i * 3 + w))) k w && allG (fun j => allG (fun w => !ti (S.1 (3 * t) 0) j || (S.1 (3 * t + 1) (j * 3 + w) == S.1 (3 * u + 1) (j * 3 + w))) 3 0) n (i + 1)))) ([.ref (gA G (3 * t)), .ref (gA G (3 * u))] : List Value).toArray s 0 0 (fun _ => False)) (F0 m 23 ls []) := by
          intro k
          induction k with
          | zero =>
            intro w h3 ls hl
            refine lv_iload_n hx hb dX1_sameAs_23 rfl (lv_at hl 3 rfl) ?_
            refine lv_iconst (v := nI 3) hx hb dX1_sameAs_24 (by decide) ?_
            refine nv_icmp_ge (tgt := 59) hx hb (by omega) (by omega) dX1_sameAs_25 (by decide) (fun c_25 => ?_) (fun c_25 => ?_)
            · refine lv_iinc (v := nI (i + 1)) (lv' := [(2, .int (nI (i + 1))), (0, .ref (gA G (3 * t))), (1, .ref (gA G (3 * u))), (3, .int (nI w))]) hx hb dX1_sameAs_59 hl (k := 2) rfl (nI_add i 1) (by decide) rfl (fun ls hl => ?_)
              refine lv_goto (tgt := 15) hx hb dX1_sameAs_62 (by decide) ?_
              exact ih (i + 1) (by omega) (by omega) ls (lv_sub hl [1, 2, 0] rfl)
            · exact absurd c_25 (by omega)
          | succ k ih2 =>
            intro w h3 ls hl
            refine lv_iload_n hx hb dX1_sameAs_23 rfl (lv_at hl 3 rfl) ?_
            refine lv_iconst (v := nI 3) hx hb dX1_sameAs_24 (by decide) ?_
            refine nv_icmp_ge (tgt := 59) hx hb (by omega) (by omega) dX1_sameAs_25 (by decide) (fun c_25 => ?_) (fun c_25 => ?_)
            · exact absurd c_25 (by omega)
            · refine lv_aload_n hx hb dX1_sameAs_28 rfl (lv_at hl 0 rfl) ?_
              refine lv_iload_n hx hb dX1_sameAs_29 rfl (lv_at hl 2 rfl) ?_
              refine pv_i (va_runV (As := [.int (nI i)]) (rest := []) ⟨hx, hb, hml, hown, hts⟩ (k_X1_isAlive l G S (t := t) (by omega) (nI i)) (cwV 1 hts gX1_sameAs_X1_isAlive rfl rfl rfl (by decide +kernel) ⟨Nat.le_of_ble_eq_true rfl, Nat.le_of_ble_eq_true rfl⟩) ⟨cP_blind, c_recv hW hK (k := (3 * t)) (ci := 1) (cw_T (t := t) (by omega)) rfl, cP_at hW hK hS⟩ rfl rfl hl.1 rfl (lv_room (Nat.le_of_ble_eq_true rfl)) dX1_sameAs_30 ⟨Nat.le_of_ble_eq_true rfl, Nat.le_of_ble_eq_true rfl⟩) (fun r_1 hr_1 => ?_)
              rw [aliveB_nI S t (by omega)] at hr_1
              subst hr_1
              refine bv_if_eq (b := ti (S.1 (3 * t) 0) i) (tgt := 53) hx hb dX1_sameAs_33 (by decide) (fun c_33 => ?_) (fun c_33 => ?_)
              · refine lv_iinc (v := nI (w + 1)) (lv' := [(3, .int (nI (w + 1))), (0, .ref (gA G (3 * t))), (1, .ref (gA G (3 * u))), (2, .int (nI i))]) hx hb dX1_sameAs_53 hl (k := 3) rfl (nI_add w 1) (by decide) rfl (fun ls hl => ?_)
                refine lv_goto (tgt := 23) hx hb dX1_sameAs_56 (by decide) ?_
                have E : (allG (fun w => !ti (S.1 (3 * t) 0) i || (S.1 (3 * t + 1) (i * 3 + w) == S.1 (3 * u + 1) (i * 3 + w))) (k + 1) w && allG (fun j => allG (fun w => !ti (S.1 (3 * t) 0) j || (S.1 (3 * t + 1) (j * 3 + w) == S.1 (3 * u + 1) (j * 3 + w))) 3 0) n (i + 1)) = (allG (fun w => !ti (S.1 (3 * t) 0) i || (S.1 (3 * t + 1) (i * 3 + w) == S.1 (3 * u + 1) (i * 3 + w))) k (w + 1) && allG (fun j => allG (fun w => !ti (S.1 (3 * t) 0) j || (S.1 (3 * t + 1) (j * 3 + w) == S.1 (3 * u + 1) (j * 3 + w))) 3 0) n (i + 1)) := by rw [allG]; simp [c_33]
                rw [E]
                exact ih2 (w + 1) (by omega) ls (lv_sub hl [1, 2, 3, 0] rfl)
              · refine lv_aload_n hx hb dX1_sameAs_36 rfl (lv_at hl 0 rfl) ?_
                refine lv_iload_n hx hb dX1_sameAs_37 rfl (lv_at hl 2 rfl) ?_
                refine lv_iload_n hx hb dX1_sameAs_38 rfl (lv_at hl 3 rfl) ?_
                refine pv_i (va_runV (As := [.int (nI i), .int (nI w)]) (rest := []) ⟨hx, hb, hml, hown, hts⟩ (k_X1_valueOf l G S (t := t) (by omega) (n := i) (w := w) (by omega) (by omega)) (cwV 2 hts gX1_sameAs_X1_valueOf rfl rfl rfl (by decide +kernel) ⟨Nat.le_of_ble_eq_true rfl, Nat.le_of_ble_eq_true rfl⟩) ⟨cP_blind, c_recv hW hK (k := (3 * t)) (ci := 1) (cw_T (t := t) (by omega)) rfl, cP_at hW hK hS⟩ rfl rfl hl.1 rfl (lv_room (Nat.le_of_ble_eq_true rfl)) dX1_sameAs_39 ⟨Nat.le_of_ble_eq_true rfl, Nat.le_of_ble_eq_true rfl⟩) (fun r_2 hr_2 => ?_)
                have hr_2 : r_2 = S.1 (3 * t + 1) (i * 3 + w) := hr_2
                subst hr_2
                refine lv_aload_n hx hb dX1_sameAs_42 rfl (lv_at hl 1 rfl) ?_
                refine lv_iload_n hx hb dX1_sameAs_43 rfl (lv_at hl 2 rfl) ?_
                refine lv_iload_n hx hb dX1_sameAs_44 rfl (lv_at hl 3 rfl) ?_
                refine pv_i (va_runV (As := [.int (nI i), .int (nI w)]) (rest := [.int (S.1 (3 * t + 1) (i * 3 + w))]) ⟨hx, hb, hml, hown, hts⟩ (k_X1_valueOf l G S (t := u) (by omega) (n := i) (w := w) (by omega) (by omega)) (cwV 2 hts gX1_sameAs_X1_valueOf rfl rfl rfl (by decide +kernel) ⟨Nat.le_of_ble_eq_true rfl, Nat.le_of_ble_eq_true rfl⟩) ⟨cP_blind, c_recv hW hK (k := (3 * u)) (ci := 1) (cw_T (t := u) (by omega)) rfl, cP_at hW hK hS⟩ rfl rfl hl.1 rfl (lv_room (Nat.le_of_ble_eq_true rfl)) dX1_sameAs_45 ⟨Nat.le_of_ble_eq_true rfl, Nat.le_of_ble_eq_true rfl⟩) (fun r_3 hr_3 => ?_)
                have hr_3 : r_3 = S.1 (3 * u + 1) (i * 3 + w) := hr_3
                subst hr_3
                refine lv_icmp_eq (tgt := 53) hx hb dX1_sameAs_48 (by decide) (fun c_48 => ?_) (fun c_48 => ?_)
                · refine lv_iinc (v := nI (w + 1)) (lv' := [(3, .int (nI (w + 1))), (0, .ref (gA G (3 * t))), (1, .ref (gA G (3 * u))), (2, .int (nI i))]) hx hb dX1_sameAs_53 hl (k := 3) rfl (nI_add w 1) (by decide) rfl (fun ls hl => ?_)
                  refine lv_goto (tgt := 23) hx hb dX1_sameAs_56 (by decide) ?_
                  have E : (allG (fun w => !ti (S.1 (3 * t) 0) i || (S.1 (3 * t + 1) (i * 3 + w) == S.1 (3 * u + 1) (i * 3 + w))) (k + 1) w && allG (fun j => allG (fun w => !ti (S.1 (3 * t) 0) j || (S.1 (3 * t + 1) (j * 3 + w) == S.1 (3 * u + 1) (j * 3 + w))) 3 0) n (i + 1)) = (allG (fun w => !ti (S.1 (3 * t) 0) i || (S.1 (3 * t + 1) (i * 3 + w) == S.1 (3 * u + 1) (i * 3 + w))) k (w + 1) && allG (fun j => allG (fun w => !ti (S.1 (3 * t) 0) j || (S.1 (3 * t + 1) (j * 3 + w) == S.1 (3 * u + 1) (j * 3 + w))) 3 0) n (i + 1)) := by rw [allG]; simp [c_33, c_48]
                  rw [E]
                  exact ih2 (w + 1) (by omega) ls (lv_sub hl [1, 2, 3, 0] rfl)
                · refine lv_iconst (v := nI 0) hx hb dX1_sameAs_51 (by decide) ?_
                  exact W.zret (v := nI 0) hx hb hr rfl (fun t9 ht9 _ => ⟨_, rfl, (bI_i0 (by rw [allG]; simp [c_33, c_48])), ht9⟩) (fun _ h => by cases h) dX1_sameAs_52
        exact LQ 3 0 (by omega) ls (lv_sub hl [1, 2, 3, 0] rfl)
  refine lv_aload_n hx hb dX1_sameAs_0 rfl (lv_at hl 0 rfl) ?_
  refine va_get (D := gD G) (ci := 1) (v := .int (S.1 (3 * t) 0)) (C := RX1) (T := TX1) (N := 3) hx hb hts inX1 hown hK.1 hW (3 * t) (cw_T (t := t) (by omega)) rfl 0 (by decide) (hts (.fieldLink RX1 9 "MarkedTrees$Tree" "alive" "I") (by decide +kernel)) (fun _ h9 => h9) rfl dX1_sameAs_1 ?_
  refine lv_aload_n hx hb dX1_sameAs_4 rfl (lv_at hl 1 rfl) ?_
  refine va_get (D := gD G) (ci := 1) (v := .int (S.1 (3 * u) 0)) (C := RX1) (T := TX1) (N := 3) hx hb hts inX1 hown hK.1 hW (3 * u) (cw_T (t := u) (by omega)) rfl 0 (by decide) (hts (.fieldLink RX1 9 "MarkedTrees$Tree" "alive" "I") (by decide +kernel)) (fun _ h9 => h9) rfl dX1_sameAs_5 ?_
  refine lv_icmp_eq (tgt := 13) hx hb dX1_sameAs_8 (by decide) (fun c_8 => ?_) (fun c_8 => ?_)
  · refine lv_iconst (v := nI 1) hx hb dX1_sameAs_13 (by decide) ?_
    refine lv_istore_n (lv' := [(2, .int (nI 1)), (0, .ref (gA G (3 * t))), (1, .ref (gA G (3 * u)))]) hx hb dX1_sameAs_14 rfl hl (by decide) rfl (fun ls hl => ?_)
    have E : sameB S t u = allG (fun j => allG (fun w => !ti (S.1 (3 * t) 0) j || (S.1 (3 * t + 1) (j * 3 + w) == S.1 (3 * u + 1) (j * 3 + w))) 3 0) 15 1 := by unfold sameB; rw [if_pos c_8]
    rw [E]
    exact LP 15 1 (by omega) (by omega) ls (lv_sub hl [1, 2, 0] rfl)
  · refine lv_iconst (v := nI 0) hx hb dX1_sameAs_11 (by decide) ?_
    exact W.zret (v := nI 0) hx hb hr rfl (fun t9 ht9 _ => ⟨_, rfl, (bI_i0 (by unfold sameB; rw [if_neg c_8])), ht9⟩) (fun _ h => by cases h) dX1_sameAs_12
