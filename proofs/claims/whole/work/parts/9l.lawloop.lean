/-! THE LAW'S LOOP -/
theorem lt_5 {L i : Nat} (hL : L ≤ 320) (hi : i ≤ 330) : (nI L - nI 5 < nI i) ↔ ¬ i + 5 ≤ L := by
  by_cases h : 5 ≤ L
  · rw [pk_sub h, nI_ltI (by omega) (by omega)]; omega
  · have h1 := pk_sneg (a := L) (b := 5) (by omega) (by omega)
    refine ⟨fun _ => by omega, fun _ => Int32.lt_of_lt_of_le h1 (nI_ge0 (by omega))⟩
set_option maxRecDepth 100000 in
set_option maxHeartbeats 4000000 in
theorem lw_loop {p : Program} {l : Launch} {e : Env} {s : State} {m : MethodId} {below : List Frame} {meth : Method} {c : Code} (hlt : l.stackTraces = false) {b L : Nat} {xs : Nat → Int32} (hF : CallFix p m c cL_law 8 s #[Value.ref b] lw_tbl RL) (hr : meth.sig.returnType = ret) (hlocks : meth.locks = false) (hX : va_X b L xs s s.heap) (hbl : b < s.heap.size) (hL : L ≤ 320) {G G' : GT} {o : Nat} (hG : LG s G G' o) :
    ∀ (n i : Nat), L ≤ i + 5 * n + 4 → i ≤ 325 → ∀ (H : Heap) (locs : List Loc) (S M : SS) (f : Nat → Int64) (rc nc cells slots : Nat) (ls : Array Slot), cells + 12 * n ≤ 600000 → slots + 72 * n ≤ 7300000 → LH s G G' o H S M f → va_S (LAp s) s.heap H locs → RR S (mT M) rc nc → lv_has ls 8 [(4, .int (nI i)), (0, .ref b), (1, .ref (gA G 139)), (2, .ref (gA G' 0)), (3, .ref o)] → W p l e room_1 s m #[Value.ref b] below meth c H locs cells slots (lw_Z below #[Value.ref b] s) (F0 m 23 ls []) := by
  have hx := hF.1
  have hb := hF.2.1
  intro n
  induction n with
  | zero =>
    intro i hn hi H locs S M f rc nc cells slots ls hc hs h hS hR hl
    refine lv_iload hx hb dL_law_23 (lv_at hl 0 rfl) ?_
    refine lv_aload_n hx hb dL_law_25 rfl (lv_at hl 1 rfl) ?_
    refine va_slen hx hb hX hbl (fun z => Nat.not_le.mpr hbl z) hS dL_law_26 ?_
    refine lv_iconst (v := nI 5) hx hb dL_law_27 (by decide) ?_
    refine lv_isub hx hb dL_law_28 ?_
    refine lv_icmp_gt (tgt := 1507) hx hb dL_law_29 (by decide) (fun _ => ?_) (fun h9 => ?_)
    · refine lv_iconst (v := 1) hx hb dL_law_1507 (by decide) ?_
      refine va_forget (fun q hq => hS.2.2 q hq) ?_
      refine W.widen (k := 600128) (n := 7301098) (by omega) (by omega) ?_
      exact lw_ret hx hb hr hlocks dL_law_1508
    · exact absurd ((lt_5 hL (by omega)).mpr (by omega)) h9
  | succ n ih =>
    intro i hn hi H locs S M f rc nc cells slots ls hc hs h hS hR hl
    refine lv_iload hx hb dL_law_23 (lv_at hl 0 rfl) ?_
    refine lv_aload_n hx hb dL_law_25 rfl (lv_at hl 1 rfl) ?_
    refine va_slen hx hb hX hbl (fun z => Nat.not_le.mpr hbl z) hS dL_law_26 ?_
    refine lv_iconst (v := nI 5) hx hb dL_law_27 (by decide) ?_
    refine lv_isub hx hb dL_law_28 ?_
    refine lv_icmp_gt (tgt := 1507) hx hb dL_law_29 (by decide) (fun _ => ?_) (fun h9 => ?_)
    · refine lv_iconst (v := 1) hx hb dL_law_1507 (by decide) ?_
      refine va_forget (fun q hq => hS.2.2 q hq) ?_
      refine W.widen (k := 600128) (n := 7301098) (by omega) (by omega) ?_
      exact lw_ret hx hb hr hlocks dL_law_1508
    · have hi5 : i + 5 ≤ L := Classical.byContradiction fun z => h9 ((lt_5 hL (by omega)).mpr z)
      have K : ∀ (H1 : Heap) (locs1 : List Loc) (S1 M1 : SS) (f1 : Nat → Int64) (rc1 nc1 : Nat) (ls1 : Array Slot), LH s G G' o H1 S1 M1 f1 → va_S (LAp s) s.heap H1 locs1 → RR S1 (mT M1) rc1 nc1 → lv_has ls1 8 [(4, .int (nI i)), (0, .ref b), (1, .ref (gA G 139)), (2, .ref (gA G' 0)), (3, .ref o)] → W p l e room_1 s m #[Value.ref b] below meth c H1 locs1 (cells + 12) (slots + 72) (lw_Z below #[Value.ref b] s) (F0 m 1501 ls1 []) := by
        intro H1 locs1 S1 M1 f1 rc1 nc1 ls1 h1 hS1 hR1 hl1
        refine lv_iinc (v := nI (i + 5)) (lv' := [(4, .int (nI (i + 5))), (0, .ref b), (1, .ref (gA G 139)), (2, .ref (gA G' 0)), (3, .ref o)]) hx hb dL_law_1501 hl1 (k := 0) rfl (nI_add i 5) (by decide) rfl (fun ls hl => ?_)
        refine lv_goto (tgt := 23) hx hb dL_law_1504 (by decide) ?_
        exact ih (i + 5) (by omega) (by omega) H1 locs1 S1 M1 f1 rc1 nc1 _ _ ls (by omega) (by omega) h1 hS1 hR1 hl
      refine lv_aload_n hx hb dL_law_32 rfl (lv_at hl 1 rfl) ?_
      refine lv_iload hx hb dL_law_33 (lv_at hl 0 rfl) ?_
      refine va_sld hx hb hX hbl (fun z => Nat.not_le.mpr hbl z) hS (vp_in_nI (show i < L by omega) (by omega)) dL_law_35 ?_
      refine lv_bipush (v := nI 31) hx hb dL_law_36 (by decide) ?_
      refine lv_iand hx hb dL_law_38 ?_
      generalize xs (nI i).toNatClampNeg &&& nI 31 = z
      rcases swt z (n := 19) (by decide) with ⟨j9, hj9, e9⟩ | ho9
      · subst e9
        rcases (show j9 = 0 ∨ j9 = 1 ∨ j9 = 2 ∨ j9 = 3 ∨ j9 = 4 ∨ j9 = 5 ∨ j9 = 6 ∨ j9 = 7 ∨ j9 = 8 ∨ j9 = 9 ∨ j9 = 10 ∨ j9 = 11 ∨ j9 = 12 ∨ j9 = 13 ∨ j9 = 14 ∨ j9 = 15 ∨ j9 = 16 ∨ j9 = 17 ∨ j9 = 18 by omega) with rfl | rfl | rfl | rfl | rfl | rfl | rfl | rfl | rfl | rfl | rfl | rfl | rfl | rfl | rfl | rfl | rfl | rfl | rfl
        · refine lv_tableIn (tgt := 128) (off := 89) hx hb dL_law_39 (by decide +kernel) (by decide +kernel) (by decide +kernel) (by decide) ?_
          exact lc_open hlt hF hX hbl hL hG hi5 h hS hR ⟨by omega, by omega⟩ hl K
        · refine lv_tableIn (tgt := 176) (off := 137) hx hb dL_law_39 (by decide +kernel) (by decide +kernel) (by decide +kernel) (by decide) ?_
          exact lc_add hlt hF hX hbl hL hG hi5 h hS hR ⟨by omega, by omega⟩ hl K
        · refine lv_tableIn (tgt := 284) (off := 245) hx hb dL_law_39 (by decide +kernel) (by decide +kernel) (by decide +kernel) (by decide) ?_
          exact lc_drop hlt hF hX hbl hL hG hi5 h hS hR ⟨by omega, by omega⟩ hl K
        · refine lv_tableIn (tgt := 332) (off := 293) hx hb dL_law_39 (by decide +kernel) (by decide +kernel) (by decide +kernel) (by decide) ?_
          exact lc_move hlt hF hX hbl hL hG hi5 h hS hR ⟨by omega, by omega⟩ hl K
        · refine lv_tableIn (tgt := 404) (off := 365) hx hb dL_law_39 (by decide +kernel) (by decide +kernel) (by decide +kernel) (by decide) ?_
          exact lc_write hlt hF hX hbl hL hG hi5 h hS hR ⟨by omega, by omega⟩ hl K
        · refine lv_tableIn (tgt := 476) (off := 437) hx hb dL_law_39 (by decide +kernel) (by decide +kernel) (by decide +kernel) (by decide) ?_
          exact lc_commit hlt hF hX hbl hL hG hi5 h hS hR ⟨by omega, by omega⟩ hl K
        · refine lv_tableIn (tgt := 532) (off := 493) hx hb dL_law_39 (by decide +kernel) (by decide +kernel) (by decide +kernel) (by decide) ?_
          exact lc_decide hlt hF hX hbl hL hG hi5 h hS hR ⟨by omega, by omega⟩ hl K
        · refine lv_tableIn (tgt := 604) (off := 565) hx hb dL_law_39 (by decide +kernel) (by decide +kernel) (by decide +kernel) (by decide) ?_
          exact lc_bury hlt hF hX hbl hL hG hi5 h hS hR ⟨by omega, by omega⟩ hl K
        · refine lv_tableIn (tgt := 680) (off := 641) hx hb dL_law_39 (by decide +kernel) (by decide +kernel) (by decide +kernel) (by decide) ?_
          exact lc_merge hlt hF hX hbl hL hG hi5 h hS hR ⟨by omega, by omega⟩ hl K
        · refine lv_tableIn (tgt := 760) (off := 721) hx hb dL_law_39 (by decide +kernel) (by decide +kernel) (by decide +kernel) (by decide) ?_
          exact lc_conflict hlt hF hX hbl hL hG hi5 h hS hR ⟨by omega, by omega⟩ hl K
        · refine lv_tableIn (tgt := 840) (off := 801) hx hb dL_law_39 (by decide +kernel) (by decide +kernel) (by decide +kernel) (by decide) ?_
          exact lc_about hlt hF hX hbl hL hG hi5 h hS hR ⟨by omega, by omega⟩ hl K
        · refine lv_tableIn (tgt := 920) (off := 881) hx hb dL_law_39 (by decide +kernel) (by decide +kernel) (by decide +kernel) (by decide) ?_
          exact lc_marks hlt hF hX hbl hL hG hi5 h hS hR ⟨by omega, by omega⟩ hl K
        · refine lv_tableIn (tgt := 999) (off := 960) hx hb dL_law_39 (by decide +kernel) (by decide +kernel) (by decide +kernel) (by decide) ?_
          exact lc_nodes hlt hF hX hbl hL hG hi5 h hS hR ⟨by omega, by omega⟩ hl K
        · refine lv_tableIn (tgt := 1066) (off := 1027) hx hb dL_law_39 (by decide +kernel) (by decide +kernel) (by decide +kernel) (by decide) ?_
          exact lc_ancestors hlt hF hX hbl hL hG hi5 h hS hR ⟨by omega, by omega⟩ hl K
        · refine lv_tableIn (tgt := 1121) (off := 1082) hx hb dL_law_39 (by decide +kernel) (by decide +kernel) (by decide +kernel) (by decide) ?_
          exact lc_certify hlt hF hX hbl hL hG hi5 h hS hR ⟨by omega, by omega⟩ hl K
        · refine lv_tableIn (tgt := 1220) (off := 1181) hx hb dL_law_39 (by decide +kernel) (by decide +kernel) (by decide +kernel) (by decide) ?_
          exact lc_trust hlt hF hX hbl hL hG hi5 h hS hR ⟨by omega, by omega⟩ hl K
        · refine lv_tableIn (tgt := 1323) (off := 1284) hx hb dL_law_39 (by decide +kernel) (by decide +kernel) (by decide +kernel) (by decide) ?_
          exact lc_heads hlt hF hX hbl hL hG hi5 h hS hR ⟨by omega, by omega⟩ hl K
        · refine lv_tableIn (tgt := 1390) (off := 1351) hx hb dL_law_39 (by decide +kernel) (by decide +kernel) (by decide +kernel) (by decide) ?_
          exact lc_exchange hlt hF hX hbl hL hG hi5 h hS hR ⟨by omega, by omega⟩ hl K
        · refine lv_tableIn (tgt := 1446) (off := 1407) hx hb dL_law_39 (by decide +kernel) (by decide +kernel) (by decide +kernel) (by decide) ?_
          exact lc_has hlt hF hX hbl hL hG hi5 h hS hR ⟨by omega, by omega⟩ hl K
      · refine lv_tableOut (tgt := 1501) hx hb dL_law_39 (by have := ho9.2; omega) (by decide) ?_
        refine W.widen (k := cells + 12) (n := slots + 72) (by omega) (by omega) ?_
        exact K H locs S M f rc nc ls h hS hR hl
