/-! THE LAW'S START -/
def sG (D : va_G) (u : Nat → Nat) (aI aJ aZ aT : ClassId) (n0 n1 n2 : Nat) : GT := (D, u, fun k => match k with
  | 0 => aI
  | 1 => aJ
  | 2 => aZ
  | _ => aT, fun k => match k with
  | 0 => n0
  | 1 => n1
  | _ => n2)
theorem arr_of {args : Array Value} {s : State} {ty : FieldType} (h : (Cond.arrayClass ty).before args s = true) : ∃ cA, ArrOfT s cA ty ∧ s.vm.findClass ("[" ++ ty.toString) = some cA := by
  obtain ⟨cA, kA, comp, h1, h2, h3⟩ := Cond.arrayClass_spec h
  exact ⟨cA, fun n z => ⟨fun k h => (by cases h), kA, h2, comp, h3⟩, h1⟩
theorem arr_ofT {args : Array Value} {s : State} {C : String} (h : (Cond.arrayOver (.object C)).before args s = true) : ∃ cA, ArrOfT s cA (.object C) ∧ va_RA s cA (.object C) := by
  obtain ⟨comp, cA, kA, h1, _, h2, h3, h4⟩ := Cond.arrayOver_spec h
  exact ⟨cA, fun n z => ⟨fun k h => (by cases h), kA, h2, comp, h3⟩, kA, comp, h2, h3, h1, h4⟩
theorem in_X0 : ∀ w ∈ u_ws RX0 TX0 10, w ∈ lw_tbl := by decide +kernel
theorem in_X1 : ∀ w ∈ u_ws RX1 TX1 3, w ∈ lw_tbl := by decide +kernel
theorem in_X2 : ∀ w ∈ u_ws RX2 TX2 10, w ∈ lw_tbl := by decide +kernel
theorem in_X3 : ∀ w ∈ u_ws RX3 TX3 22, w ∈ lw_tbl := by decide +kernel
theorem in_s1 : ∀ q ∈ sL, Cond.stringRef RX2 q.1 q.2 ∈ lw_tbl := by decide +kernel
theorem in_s2 : ∀ q ∈ sL, Cond.exactly (.string RX2 q.1) "java/lang/String" ∈ flatC (Jvm.Cond.and given_1 narrow_1) := by decide +kernel
theorem in_c : ∀ E ∈ ["java/util/NoSuchElementException", "java/lang/IllegalArgumentException", "java/lang/IllegalStateException"], Cond.castable E E ∈ lw_tbl := by decide +kernel
theorem in_d : ∀ E ∈ ["java/lang/RuntimeException", "java/lang/Exception", "java/lang/Throwable"], Cond.declares ⟨E, "<init>", "(Ljava/lang/String;)V"⟩ ∈ lw_tbl := by decide +kernel
/-- what the class's methods know, wherever its cells lie -/
theorem cK_of {s : State} {args : Array Value} {G : GT} {H : Heap} (hts : ∀ w ∈ lw_tbl, w.before args s = true) (hfl : ∀ w ∈ flatC (Jvm.Cond.and given_1 narrow_1), w.before args s = true) (hK : va_K (gD G) vwCl (gT G) s) (hg : gOk 143 G) (h2 : gN G 2 = s.heap.size) (h1 : gN G 1 ≤ H.size) (hz : s.heap.size ≤ H.size) (hq : ∀ a : Nat, a < s.heap.size → H[a]? = s.heap[a]?) : cK G s H := by
  refine ⟨hK, hg, ⟨by omega, h1⟩, ⟨va_Nw.of rfl (hts _ (by decide +kernel)), va_Nw.of rfl (hts _ (by decide +kernel)), va_Nw.of rfl (hts _ (by decide +kernel)), va_Nw.of rfl (hts _ (by decide +kernel))⟩, fun q hq => ?_, fun E hE => va_Nw.of rfl (hts _ (in_c E hE)), fun E hE => va_Nw.of rfl (hts _ (in_d E hE)), ?_, ?_⟩
  · obtain ⟨a, _, _, _, h9, _⟩ := Cond.exactly_spec (hfl _ (in_s2 q hq))
    exact ⟨a, vk_R.of (hts _ (in_s1 q hq)) h9⟩
  · exact (vx_Zqof (A := fun q => gN G 2 ≤ q) (hts _ (by decide +kernel)) (hts _ (by decide +kernel)) (hfl _ (by decide +kernel)) (fun a h9 => by omega)).kept (fun x q1 q2 => hq x q1)
  · exact (vx_Zqof (A := fun q => gN G 2 ≤ q) (hts _ (by decide +kernel)) (hts _ (by decide +kernel)) (hfl _ (by decide +kernel)) (fun a h9 => by omega)).kept (fun x q1 q2 => hq x q1)
set_option maxRecDepth 100000 in
set_option maxHeartbeats 4000000 in
/-- from the entry, for every script of at most 320 ints, the law comes to its end with true -/
theorem whole_start {p : Program} {e : Env} {s : State} {m : MethodId} {below : List Frame} {meth : Method} {c : Code} (l : Launch) (hlt : l.stackTraces = false) {b L : Nat} {xs : Nat → Int32} (hL : L ≤ 320) (C0 : lw_At p s m meth c b L xs) : W p l e room_1 s m #[Value.ref b] below meth c s.heap [] 0 0 (lw_Z below #[Value.ref b] s) (entryFrame m ([Value.ref b] : List Value).toArray 8) := by
  obtain ⟨hx, hb, hr, hml, hown, hts, hX, hbl, hlocks, hgv⟩ := C0
  have hF : CallFix p m c cL_law 8 s #[Value.ref b] lw_tbl RL := ⟨hx, hb, hml, hown, hts⟩
  have hfl := flat_of_before _ hgv
  obtain ⟨c0, i0, k0⟩ := u_known hts in_X0 (hts (.instantiable RX0 10) (by decide +kernel))
  obtain ⟨c1, i1, k1⟩ := u_known hts in_X1 (hts (.instantiable RX1 3) (by decide +kernel))
  obtain ⟨c2, i2, k2⟩ := u_known hts in_X2 (hts (.instantiable RX2 10) (by decide +kernel))
  obtain ⟨c3, i3, k3⟩ := u_known hts in_X3 (hts (.instantiable RX3 22) (by decide +kernel))
  obtain ⟨aI, hI1, hI2⟩ := arr_of (hts (.arrayClass .int) (by decide +kernel))
  obtain ⟨aJ, hJ1, hJ2⟩ := arr_of (hts (.arrayClass .long) (by decide +kernel))
  obtain ⟨aZ, hZ1, hZ2⟩ := arr_of (hts (.arrayClass .boolean) (by decide +kernel))
  obtain ⟨aT, hT1, hT2⟩ := arr_ofT (hts (.arrayOver (.object "MarkedTrees$Tree")) (by decide +kernel))
  have hDx : ∃ D : va_G, (D.1 0 = c0 ∧ D.2 0 = i0) ∧ (D.1 1 = c1 ∧ D.2 1 = i1) ∧ (D.1 2 = c2 ∧ D.2 2 = i2) ∧ (D.1 3 = c3 ∧ D.2 3 = i3) := ⟨(fun k => match k with
    | 0 => c0
    | 1 => c1
    | 2 => c2
    | _ => c3, fun k => match k with
    | 0 => i0
    | 1 => i1
    | 2 => i2
    | _ => i3), ⟨rfl, rfl⟩, ⟨rfl, rfl⟩, ⟨rfl, rfl⟩, ⟨rfl, rfl⟩⟩
  obtain ⟨D, ⟨d0, e0⟩, ⟨d1, e1⟩, ⟨d2, e2⟩, ⟨d3, e3⟩⟩ := hDx
  have hKK : ∀ (u : Nat → Nat) (n0 n1 n2 : Nat), va_K (gD (sG D u aI aJ aZ aT n0 n1 n2)) vwCl (gT (sG D u aI aJ aZ aT n0 n1 n2)) s := by
    intro u n0 n1 n2
    refine ⟨fun k q hk => ?_, fun k q hk => ?_⟩
    · match k, hk with
      | 0, hk => cases hk; show u_Kn s RX0 TX0 10 (D.1 0) (D.2 0); rw [d0, e0]; exact k0
      | 1, hk => cases hk; show u_Kn s RX1 TX1 3 (D.1 1) (D.2 1); rw [d1, e1]; exact k1
      | 2, hk => cases hk; show u_Kn s RX2 TX2 10 (D.1 2) (D.2 2); rw [d2, e2]; exact k2
      | 3, hk => cases hk; show u_Kn s RX3 TX3 22 (D.1 3) (D.2 3); rw [d3, e3]; exact k3
    · match k, hk with
      | 0, hk => cases hk; exact ⟨hI1, hI2⟩
      | 1, hk => cases hk; exact ⟨hJ1, hJ2⟩
      | 2, hk => cases hk; exact ⟨hZ1, hZ2⟩
      | 3, hk => cases hk; exact ⟨hT1, hT2⟩
  have hG0 : ∃ G0 : GT, G0 = sG D (fun _ => 0) aI aJ aZ aT 0 0 0 := ⟨_, rfl⟩
  obtain ⟨G0, hG0⟩ := hG0
  have hI : iK G0 s := by
    rw [hG0]
    exact ⟨hKK _ _ _ _, va_Nw.of rfl (hts _ (by decide +kernel)), va_AO.of (hts _ (by decide +kernel))⟩
  have hl := lv_entry ([.ref b]) (n := 8) (Nat.le_of_ble_eq_true rfl)
  rw [lg_entry_eq]
  generalize (lg_sl ([.ref b]) ++ List.replicate (8 - (lg_sl ([.ref b])).length) Slot.unset).toArray = ls at hl ⊢
  have hl : lv_has ls 8 [(0, .ref b)] := hl
  -- the class's object
  refine va_new (D := gD G0) (cl := vwCl) (tys := gT G0) (ws := []) (A := LAp s) (H0 := s.heap) (ci := 2) (fs := [.null, .null, .null, .null, .int 0, .null, .int 0, .int 0, .null, .long 0]) (C := RX2) (T := TX2) (N := 10) hx hb hts in_X2 tyX2 tyX2_ok hown (hts (.classLink RL 8 RX2) (by decide +kernel)) (hts (.instantiable RX2 10) (by decide +kernel)) (hts (.initialized RX2) (by decide +kernel)) hI.1 (fun k q h => (by simp at h)) ⟨fun i j p q h => (by simp at h), fun k q h => (by simp at h)⟩ va_S.rf (fun q h => h) rfl (fun j hj => by rcases (show j = 0 ∨ j = 1 ∨ j = 2 ∨ j = 3 ∨ j = 4 ∨ j = 5 ∨ j = 6 ∨ j = 7 ∨ j = 8 ∨ j = 9 by omega) with rfl | rfl | rfl | rfl | rfl | rfl | rfl | rfl | rfl | rfl <;> rfl) (by decide) (by decide) dL_law_0 (fun q0 H1 hP hD hS => ?_)
  have hP : va_P (gD G0) vwCl [(q0, oF)] H1 := hP
  have hD : va_D (LAp s) [(q0, oF)] := hD
  refine lv_dup hx hb dL_law_3 rfl ?_
  have hq0 : s.heap.size ≤ q0 := hD.2 0 _ rfl
  have hfr : ∀ q, va_A [(q0, oF)] H1.size q → s.heap.size ≤ q := fun q hq => by
    rcases hq with ⟨k, e9, h9⟩ | h9
    · have hk := (List.getElem?_eq_some_iff.mp h9).1
      have : k = 0 := by have : k < 1 := hk; omega
      subst this; cases h9; exact hq0
    · exact Nat.le_trans hS.1 h9
  refine va_callv (va_runI (As := []) (rest := [.ref q0]) hF (k_X2_init l G0 q0 H1.size) (cwI 0 hts lL_law_X2_init rfl rfl rfl (hts (.initialized RX2) (by decide +kernel)) (hts (.methodLink RL 83 yX2_init) (by decide +kernel)) (hts (.instanceMethod yX2_init) (by decide +kernel)) rfl (by decide +kernel) ⟨Nat.le_of_ble_eq_true rfl, Nat.le_of_ble_eq_true rfl⟩) ⟨iK_blind, iK_at hP hD hI⟩ rfl rfl hl.1 rfl (lv_room (Nat.le_of_ble_eq_true rfl)) dL_law_4 ⟨by decide, by decide⟩) hS (fun q _ h => hfr q h) hfr (fun u t H2 locs2 ht hvm h5 hB hz2 hk2 hS2 => ?_)
  obtain ⟨hB1, hB2, hB3, hB4⟩ := hB
  rw [ht] at hB1 hB3
  refine va_forget (fun q hq => hS2.2.2 q hq) ?_
  refine lv_astore_n (lv' := [(1, .ref q0), (0, .ref b)]) hx hb dL_law_7 rfl hl (by decide) rfl (fun ls hl => ?_)
  -- the reference's object
  refine va_new (D := gD G0) (cl := vwCl) (tys := gT G0) (ws := []) (A := fun q => H2.size ≤ q) (H0 := H2) (ci := 3) (fs := [.int 0, .int 0, .null, .int 0, .null, .null, .null, .null, .null, .null, .null, .null, .null, .null, .null, .null, .null, .null, .null, .null, .null, .null]) (C := RX3) (T := TX3) (N := 22) hx hb hts in_X3 tyX3 tyX3_ok hown (hts (.classLink RL 84 RX3) (by decide +kernel)) (hts (.instantiable RX3 22) (by decide +kernel)) (hts (.initialized RX3) (by decide +kernel)) hI.1 (fun k q h => (by simp at h)) ⟨fun i j p q h => (by simp at h), fun k q h => (by simp at h)⟩ va_S.rf (fun q h => h) rfl (fun j hj => by rcases (show j = 0 ∨ j = 1 ∨ j = 2 ∨ j = 3 ∨ j = 4 ∨ j = 5 ∨ j = 6 ∨ j = 7 ∨ j = 8 ∨ j = 9 ∨ j = 10 ∨ j = 11 ∨ j = 12 ∨ j = 13 ∨ j = 14 ∨ j = 15 ∨ j = 16 ∨ j = 17 ∨ j = 18 ∨ j = 19 ∨ j = 20 ∨ j = 21 by omega) with rfl | rfl | rfl | rfl | rfl | rfl | rfl | rfl | rfl | rfl | rfl | rfl | rfl | rfl | rfl | rfl | rfl | rfl | rfl | rfl | rfl | rfl <;> rfl) (by decide) (by decide) dL_law_8 (fun q1 H3 hP3 hD3 hS3 => ?_)
  have hP3 : va_P (gD G0) vwCl [(q1, mF0)] H3 := hP3
  have hD3 : va_D (fun q => H2.size ≤ q) [(q1, mF0)] := hD3
  refine lv_dup hx hb dL_law_11 rfl ?_
  have hq1 : H2.size ≤ q1 := hD3.2 0 _ rfl
  have hfr3 : ∀ q, va_A [(q1, mF0)] H3.size q → H2.size ≤ q := fun q hq => by
    rcases hq with ⟨k, e9, h9⟩ | h9
    · have hk := (List.getElem?_eq_some_iff.mp h9).1
      have : k = 0 := by have : k < 1 := hk; omega
      subst this; cases h9; exact hq1
    · exact Nat.le_trans hS3.1 h9
  refine va_callv (va_runI (As := []) (rest := [.ref q1]) hF (k_X3_init l G0 q1 H3.size) (cwI 0 hts lL_law_X3_init rfl rfl rfl (hts (.initialized RX3) (by decide +kernel)) (hts (.methodLink RL 86 yX3_init) (by decide +kernel)) (hts (.instanceMethod yX3_init) (by decide +kernel)) rfl (by decide +kernel) ⟨Nat.le_of_ble_eq_true rfl, Nat.le_of_ble_eq_true rfl⟩) ⟨iK_blind, iK_at hP3 hD3 hI⟩ rfl rfl hl.1 rfl (lv_room (Nat.le_of_ble_eq_true rfl)) dL_law_12 ⟨by decide, by decide⟩) hS3 (fun q _ h => hfr3 q h) hfr3 (fun u' t' H4 locs4 ht' hvm' h5' hM hz4 hk4 hS4 => ?_)
  obtain ⟨hM1, hM2, hM3, hM4⟩ := hM
  rw [ht'] at hM1 hM3
  refine va_forget (fun q hq => Nat.le_trans hS2.1 (hS4.2.2 q hq)) ?_
  refine lv_astore_n (lv' := [(2, .ref q1), (1, .ref q0), (0, .ref b)]) hx hb dL_law_15 rfl hl (by decide) rfl (fun ls hl => ?_)
  refine lv_iconst (v := nI 1) hx hb dL_law_16 (by decide) ?_
  -- the answers' array
  refine va_newaK (atype := .long) hx hb (hts (.arrayClass .long) (by decide +kernel)) rfl dL_law_17 rfl (n := nI 1) (N := 1) (by decide) (by decide) (by decide) (by decide) (by decide) (h := H4.size) rfl (fun H5 cA hc5 hz5 hk5 hA5 hf5 => ?_)
  have ecA : cA = aJ := Option.some.inj (hf5.symm.trans hJ2)
  subst ecA
  refine W.eq (g2 := F0 m 19 ls [.ref H4.size]) rfl ?_
  refine lv_astore_n (lv' := [(3, .ref H4.size), (2, .ref q1), (1, .ref q0), (0, .ref b)]) hx hb dL_law_19 rfl hl (by decide) rfl (fun ls hl => ?_)
  refine lv_iconst (v := nI 0) hx hb dL_law_20 (by decide) ?_
  refine lv_istore (lv' := [(4, .int (nI 0)), (3, .ref H4.size), (2, .ref q1), (1, .ref q0), (0, .ref b)]) hx hb dL_law_21 hl (by decide) rfl (fun ls hl => ?_)
  have h42 : ∀ q : Nat, q < H2.size → H4[q]? = H2[q]? := fun q hq => hS4.2.1 q hq (fun z => absurd z (Nat.not_le.mpr hq))
  have h52 : ∀ q : Nat, q < H2.size → H5[q]? = H2[q]? := fun q hq => (hk5 q (Nat.lt_of_lt_of_le hq hS4.1)).trans (h42 q hq)
  have h5s : ∀ q : Nat, q < s.heap.size → H5[q]? = s.heap[q]? := fun q hq => (h52 q (Nat.lt_of_lt_of_le hq hS2.1)).trans (hS2.2.1 q hq (fun z => absurd z (Nat.not_le.mpr hq)))
  have z2 : s.heap.size ≤ H2.size := hS2.1
  have z4 : H2.size ≤ H4.size := hS4.1
  have hcW2 : cW (sG D u aI cA aZ aT s.heap.size H2.size s.heap.size) cS0 H2 := by
    have := hB1
    rw [hG0] at this
    exact this
  have hmW4 : mW (sG D u' aI cA aZ aT H2.size H4.size s.heap.size) M00 H4 := by
    have := hM1
    rw [hG0] at this
    exact this
  have hg : gOk 143 (sG D u aI cA aZ aT s.heap.size H2.size s.heap.size) := ⟨hB2, fun i hi => ⟨hfr _ (hB3 i hi).1, (hB3 i hi).2⟩, Nat.le_refl _⟩
  have hg' : gOk 20 (sG D u' aI cA aZ aT H2.size H4.size s.heap.size) := ⟨hM2, fun i hi => ⟨hfr3 _ (hM3 i hi).1, (hM3 i hi).2⟩, z2⟩
  have hLH : LH s (sG D u aI cA aZ aT s.heap.size H2.size s.heap.size) (sG D u' aI cA aZ aT H2.size H4.size s.heap.size) H4.size H5 cS0 M00 (fun _ => 0) := by
    refine ⟨cW_keptR hcW2 hg (fun q _ _ q3 => h52 q q3), mW_kept hmW4 hg' (fun q _ _ q3 => hk5 q q3), ?_, cK_of hts hfl (hKK _ _ _ _) hg rfl (show H2.size ≤ H5.size by omega) (by omega) h5s, ⟨hKK _ _ _ _, hg', show H4.size ≤ H5.size by omega⟩, ⟨va_Nc.of (hfl _ (by decide +kernel)), va_Nc.of (hfl _ (by decide +kernel)), va_Nc.of (hfl _ (by decide +kernel))⟩⟩
    intro k q hk
    have hz : k < 1 := (List.getElem?_eq_some_iff.mp hk).1
    have : k = 0 := by omega
    subst this
    cases hk
    exact hc5
  refine lw_loop hlt hF hr hlocks hX hbl hL (G := sG D u aI cA aZ aT s.heap.size H2.size s.heap.size) (G' := sG D u' aI cA aZ aT H2.size H4.size s.heap.size) (o := H4.size) ⟨Nat.le_refl _, Nat.le_refl _, Nat.le_refl _, rfl⟩ 64 0 (by omega) (by omega) H5 [] cS0 M00 (fun _ => 0) 1 1 _ _ ls (by omega) (by omega) hLH ⟨by omega, fun q hq _ => h5s q hq, fun q hq => nomatch hq⟩ (by rw [mT_of RR_00.1.1.1]; exact RR_00) ?_
  have e1 : gA (sG D u aI cA aZ aT s.heap.size H2.size s.heap.size) 139 = q0 := hB4
  have e2 : gA (sG D u' aI cA aZ aT H2.size H4.size s.heap.size) 0 = q1 := hM4
  rw [e1, e2]
  exact lv_sub hl [0, 4, 3, 2, 1] rfl
