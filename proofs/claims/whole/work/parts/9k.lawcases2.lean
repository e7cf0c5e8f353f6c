/-! THE LAW'S CASES, on -/
set_option maxRecDepth 100000 in
set_option maxHeartbeats 4000000 in
theorem lc_conflict {p : Program} {l : Launch} {e : Env} {s : State} {m : MethodId} {below : List Frame} {meth : Method} {c : Code} (hlt : l.stackTraces = false) {b L : Nat} {xs : Nat → Int32} (hF : CallFix p m c cL_law 8 s #[Value.ref b] lw_tbl RL) (hX : va_X b L xs s s.heap) (hbl : b < s.heap.size) (hL : L ≤ 320) {G G' : GT} {o : Nat} (hG : LG s G G' o)
    {i : Nat} (hi : i + 5 ≤ L) {H : Heap} {locs : List Loc} {S M : SS} {f : Nat → Int64} (h : LH s G G' o H S M f) (hS : va_S (LAp s) s.heap H locs) {rc nc : Nat} (hR : RR S (mT M) rc nc) {cells slots : Nat} (hc : cells + 12 ≤ 600000 ∧ slots + 72 ≤ 7300000) {ls : Array Slot} (hl : lv_has ls 8 [(4, .int (nI i)), (0, .ref b), (1, .ref (gA G 139)), (2, .ref (gA G' 0)), (3, .ref o)]) {Q : State → Prop}
    (kk : ∀ (H1 : Heap) (locs1 : List Loc) (S1 M1 : SS) (f1 : Nat → Int64) (rc1 nc1 : Nat) (ls1 : Array Slot), LH s G G' o H1 S1 M1 f1 → va_S (LAp s) s.heap H1 locs1 → RR S1 (mT M1) rc1 nc1 → lv_has ls1 8 [(4, .int (nI i)), (0, .ref b), (1, .ref (gA G 139)), (2, .ref (gA G' 0)), (3, .ref o)] → W p l e room_1 s m #[Value.ref b] below meth c H1 locs1 (cells + 12) (slots + 72) Q (F0 m 1501 ls1 [])) :
    W p l e room_1 s m #[Value.ref b] below meth c H locs cells slots Q (F0 m 760 ls []) := by
  have hx := hF.1
  have hb := hF.2.1
  have ho := LG_o hG h
  have hm0 : (mT M).1 0 0 = nI 0 := hR.1.1.1
  have hmrc : M.1 0 1 = nI rc := (mT_0 M (by omega)).symm.trans hR.1.1.2.2.1
  have hmnc : M.1 0 3 = nI nc := (mT_0 M (by omega)).symm.trans hR.1.1.2.2.2.2.1
  have hl0 : ∃ lc : Nat → Nat, ∀ i, i < 2 → lc i ≤ 45 ∧ S.1 (129 + 5 * i) 9 = nI (lc i) ∧ (mT M).1 16 i = nI (lc i) := ⟨fun i => if h : i < 2 then Classical.choose (hR.2.1 i h).2.2.2.2.2.2 else 0, fun i hi => by
    show dite _ _ _ ≤ 45 ∧ _ = nI (dite _ _ _) ∧ _ = nI (dite _ _ _)
    rw [dif_pos hi]
    have := Classical.choose_spec (hR.2.1 i hi).2.2.2.2.2.2
    exact ⟨this.1, this.2.1, this.2.2.1⟩⟩
  obtain ⟨lc, hl9⟩ := hl0
  have hlC : ∀ i, i < 2 → lc i ≤ 48 ∧ S.1 (129 + 5 * i) 9 = nI (lc i) := fun i q => ⟨Nat.le_trans (hl9 i q).1 (by omega), (hl9 i q).2.1⟩
  have hlM : ∀ i, i < 2 → lc i ≤ 64 ∧ M.1 16 i = nI (lc i) := fun i q => ⟨Nat.le_trans (hl9 i q).1 (by omega), (congrFun (mT_1 M (by omega)) i).symm.trans (hl9 i q).2.2⟩
  have hlA : ∀ i, i < 2 → lc i ≤ 45 ∧ S.1 (129 + 5 * i) 9 = nI (lc i) := fun i q => ⟨(hl9 i q).1, (hl9 i q).2.1⟩
  refine lv_aload_n hx hb dL_law_760 rfl (lv_at hl 2 rfl) ?_
  refine lw_s hx hb hX hbl hS (k := 1) (by omega) hL (by decide) (lv_at hl 1 rfl) (lv_at hl 0 rfl) dL_law_761 dL_law_762 dL_law_764 dL_law_765 dL_law_766 ?_
  refine lw_s hx hb hX hbl hS (k := 2) (by omega) hL (by decide) (lv_at hl 1 rfl) (lv_at hl 0 rfl) dL_law_767 dL_law_768 dL_law_770 dL_law_771 dL_law_772 ?_
  refine lw_s hx hb hX hbl hS (k := 3) (by omega) hL (by decide) (lv_at hl 1 rfl) (lv_at hl 0 rfl) dL_law_773 dL_law_774 dL_law_776 dL_law_777 dL_law_778 ?_
  refine lv_aload_n hx hb dL_law_779 rfl (lv_at hl 4 rfl) ?_
  refine lw_C hG h hS (vx_runSW (As := [.ref (gA G 139), .int (xs (i + 1)), .int (xs (i + 2)), .int (xs (i + 3)), .ref o]) (rest := []) hF (k_L_conflict l hlt G S H.size o f ho hlC (xs (i + 1)) (xs (i + 2)) (xs (i + 3))) (vx_cwSW 5 hF.2.2.2.2 lL_law_L_conflict rfl rfl rfl (by decide +kernel) ⟨Nat.le_of_ble_eq_true rfl, Nat.le_of_ble_eq_true rfl⟩) ⟨hP_blind, lw_pC h⟩ rfl rfl hl.1 rfl (lv_room (Nat.le_of_ble_eq_true rfl)) dL_law_780 ⟨Nat.le_trans (by omega) (show 600000 ≤ room_1.cells by decide), Nat.le_trans (by omega) (show 7300000 ≤ room_1.slots by decide)⟩) (fun r u H locs hu h hS => ?_)
  obtain ⟨rfl, hu, hv⟩ := hu
  obtain ⟨S1, f1⟩ := u
  dsimp only at hu h hv
  have hu := hu.symm
  subst hu
  refine W.widen (k := cells + 12) (n := slots + 72) (by omega) (by omega) ?_
  refine lv_istore (lv' := [(5, .int (nI (cdConflict (lc (cn (xs (i + 1)))) (xs (i + 1)) (xs (i + 2)) (xs (i + 3))))), (4, .int (nI i)), (0, .ref b), (1, .ref (gA G 139)), (2, .ref (gA G' 0)), (3, .ref o)]) hx hb dL_law_783 hl (by decide) rfl (fun ls hl => ?_)
  refine lv_aload_n hx hb dL_law_785 rfl (lv_at hl 4 rfl) ?_
  refine lw_s hx hb hX hbl hS (k := 1) (by omega) hL (by decide) (lv_at hl 2 rfl) (lv_at hl 1 rfl) dL_law_786 dL_law_787 dL_law_789 dL_law_790 dL_law_791 ?_
  refine lw_s hx hb hX hbl hS (k := 2) (by omega) hL (by decide) (lv_at hl 2 rfl) (lv_at hl 1 rfl) dL_law_792 dL_law_793 dL_law_795 dL_law_796 dL_law_797 ?_
  refine lw_s hx hb hX hbl hS (k := 3) (by omega) hL (by decide) (lv_at hl 2 rfl) (lv_at hl 1 rfl) dL_law_798 dL_law_799 dL_law_801 dL_law_802 dL_law_803 ?_
  refine lw_Mi hG h hS (va_runV (As := [.int (xs (i + 1)), .int (xs (i + 2)), .int (xs (i + 3))]) (rest := []) hF (k_X3_conflict l G' M H.size hlM (xs (i + 1)) (xs (i + 2)) (xs (i + 3))) (cwV 3 hF.2.2.2.2 lL_law_X3_conflict rfl rfl rfl (by decide +kernel) ⟨Nat.le_of_ble_eq_true rfl, Nat.le_of_ble_eq_true rfl⟩) ⟨mQ_blind, lw_rM h, lw_pM h⟩ rfl rfl hl.1 rfl (lv_room (Nat.le_of_ble_eq_true rfl)) dL_law_804 ⟨Nat.le_trans (by omega) (show 600000 ≤ room_1.cells by decide), Nat.le_trans (by omega) (show 7300000 ≤ room_1.slots by decide)⟩) (fun r u H locs hm h hS => ?_)
  obtain ⟨hr9, rfl⟩ := hm
  obtain ⟨ht0, rc1, nc1, hR1⟩ := st_ok (c := cdConflict (lc (cn (xs (i + 1)))) (xs (i + 1)) (xs (i + 2)) (xs (i + 3))) (mc := mcConflict (lc (cn (xs (i + 1)))) (xs (i + 1)) (xs (i + 2)) (xs (i + 3))) (C' := S) (D := mT M) hR hm0 (e_conflict _ _ _ _) (fun h9 => ⟨_, _, hR⟩)
  rw [ite_self] at hR1
  refine lv_istore (lv' := [(6, .int r), (5, .int (nI (cdConflict (lc (cn (xs (i + 1)))) (xs (i + 1)) (xs (i + 2)) (xs (i + 3))))), (4, .int (nI i)), (0, .ref b), (1, .ref (gA G 139)), (2, .ref (gA G' 0)), (3, .ref o)]) hx hb dL_law_807 hl (by decide) rfl (fun ls hl => ?_)
  refine lv_aload_n hx hb dL_law_809 rfl (lv_at hl 5 rfl) ?_
  refine pv_i (va_runV (As := []) (rest := []) hF (k_X3_thrown l G' _) (cwV 0 hF.2.2.2.2 lL_law_X3_thrown rfl rfl rfl (by decide +kernel) ⟨Nat.le_of_ble_eq_true rfl, Nat.le_of_ble_eq_true rfl⟩) ⟨mP_blind, lw_rM h, lw_pT h⟩ rfl rfl hl.1 rfl (lv_room (Nat.le_of_ble_eq_true rfl)) dL_law_810 ⟨Nat.le_trans (by omega) (show 600000 ≤ room_1.cells by decide), Nat.le_trans (by omega) (show 7300000 ≤ room_1.slots by decide)⟩) (fun r9 ht => ?_)
  subst ht
  rw [ht0]
  refine lv_iload hx hb dL_law_813 (lv_at hl 1 rfl) ?_
  refine lv_icmp_eq (tgt := 820) hx hb dL_law_815 (by decide) (fun _ => ?_) (fun h9 => absurd (congrArg nI (e_conflict _ _ _ _).symm) h9)
  refine lv_iload hx hb dL_law_820 (lv_at hl 1 rfl) ?_
  refine lv_if_ne (tgt := 837) hx hb dL_law_822 (by decide) (fun _ => ?_) (fun ha => ?_)
  · refine lv_goto (tgt := 1501) hx hb dL_law_837 (by decide) ?_
    exact kk H locs _ _ _ rc1 nc1 ls h hS hR1 (lv_sub hl [2, 3, 4, 5, 6] rfl)
  · have ha : cdConflict (lc (cn (xs (i + 1)))) (xs (i + 1)) (xs (i + 2)) (xs (i + 3)) = 0 := nI_z ha (cd_lt (by unfold cdConflict; (repeat' split) <;> omega))
    have hv := hv ha
    have hr9 := hr9 ((e_conflict _ _ _ _).symm.trans ha)
    refine lv_aload_n hx hb dL_law_825 rfl (lv_at hl 6 rfl) ?_
    refine lv_iconst (v := nI 0) hx hb dL_law_826 (by decide) ?_
    refine nv_lald hx hb h.2.2.2.1.1 h.2.2.1 0 1 rfl rfl (i := 0) (by decide) (by decide) dL_law_827 ?_
    refine lv_iload hx hb dL_law_828 (lv_at hl 0 rfl) ?_
    refine lv_i2l (v := r.toInt64) hx hb dL_law_830 rfl ?_
    refine W.lcmp hx hb dL_law_831 ?_
    refine cv_if_eq (tgt := 837) hx hb dL_law_832 (by decide) (fun _ => ?_) (fun h9 => absurd (hv.trans ((congrArg Int32.toInt64 ((a_conflict hR hlA ha))).trans (congrArg Int32.toInt64 hr9.symm))) h9)
    refine lv_goto (tgt := 1501) hx hb dL_law_837 (by decide) ?_
    exact kk H locs _ _ _ rc1 nc1 ls h hS hR1 (lv_sub hl [2, 3, 4, 5, 6] rfl)
set_option maxRecDepth 100000 in
set_option maxHeartbeats 4000000 in
theorem lc_about {p : Program} {l : Launch} {e : Env} {s : State} {m : MethodId} {below : List Frame} {meth : Method} {c : Code} (hlt : l.stackTraces = false) {b L : Nat} {xs : Nat → Int32} (hF : CallFix p m c cL_law 8 s #[Value.ref b] lw_tbl RL) (hX : va_X b L xs s s.heap) (hbl : b < s.heap.size) (hL : L ≤ 320) {G G' : GT} {o : Nat} (hG : LG s G G' o)
    {i : Nat} (hi : i + 5 ≤ L) {H : Heap} {locs : List Loc} {S M : SS} {f : Nat → Int64} (h : LH s G G' o H S M f) (hS : va_S (LAp s) s.heap H locs) {rc nc : Nat} (hR : RR S (mT M) rc nc) {cells slots : Nat} (hc : cells + 12 ≤ 600000 ∧ slots + 72 ≤ 7300000) {ls : Array Slot} (hl : lv_has ls 8 [(4, .int (nI i)), (0, .ref b), (1, .ref (gA G 139)), (2, .ref (gA G' 0)), (3, .ref o)]) {Q : State → Prop}
    (kk : ∀ (H1 : Heap) (locs1 : List Loc) (S1 M1 : SS) (f1 : Nat → Int64) (rc1 nc1 : Nat) (ls1 : Array Slot), LH s G G' o H1 S1 M1 f1 → va_S (LAp s) s.heap H1 locs1 → RR S1 (mT M1) rc1 nc1 → lv_has ls1 8 [(4, .int (nI i)), (0, .ref b), (1, .ref (gA G 139)), (2, .ref (gA G' 0)), (3, .ref o)] → W p l e room_1 s m #[Value.ref b] below meth c H1 locs1 (cells + 12) (slots + 72) Q (F0 m 1501 ls1 [])) :
    W p l e room_1 s m #[Value.ref b] below meth c H locs cells slots Q (F0 m 840 ls []) := by
  have hx := hF.1
  have hb := hF.2.1
  have ho := LG_o hG h
  have hm0 : (mT M).1 0 0 = nI 0 := hR.1.1.1
  have hmrc : M.1 0 1 = nI rc := (mT_0 M (by omega)).symm.trans hR.1.1.2.2.1
  have hmnc : M.1 0 3 = nI nc := (mT_0 M (by omega)).symm.trans hR.1.1.2.2.2.2.1
  refine lv_aload_n hx hb dL_law_840 rfl (lv_at hl 2 rfl) ?_
  refine lw_s hx hb hX hbl hS (k := 1) (by omega) hL (by decide) (lv_at hl 1 rfl) (lv_at hl 0 rfl) dL_law_841 dL_law_842 dL_law_844 dL_law_845 dL_law_846 ?_
  refine lw_s hx hb hX hbl hS (k := 2) (by omega) hL (by decide) (lv_at hl 1 rfl) (lv_at hl 0 rfl) dL_law_847 dL_law_848 dL_law_850 dL_law_851 dL_law_852 ?_
  refine lw_s hx hb hX hbl hS (k := 3) (by omega) hL (by decide) (lv_at hl 1 rfl) (lv_at hl 0 rfl) dL_law_853 dL_law_854 dL_law_856 dL_law_857 dL_law_858 ?_
  refine lv_aload_n hx hb dL_law_859 rfl (lv_at hl 4 rfl) ?_
  refine lw_C hG h hS (vx_runSW (As := [.ref (gA G 139), .int (xs (i + 1)), .int (xs (i + 2)), .int (xs (i + 3)), .ref o]) (rest := []) hF (k_L_about l hlt G S H.size o f ho hR.1.1.2.1 hR.1.1.2.2.2.2.2.2.1 (xs (i + 1)) (xs (i + 2)) (xs (i + 3))) (vx_cwSW 5 hF.2.2.2.2 lL_law_L_about rfl rfl rfl (by decide +kernel) ⟨Nat.le_of_ble_eq_true rfl, Nat.le_of_ble_eq_true rfl⟩) ⟨hP_blind, lw_pC h⟩ rfl rfl hl.1 rfl (lv_room (Nat.le_of_ble_eq_true rfl)) dL_law_860 ⟨Nat.le_trans (by omega) (show 600000 ≤ room_1.cells by decide), Nat.le_trans (by omega) (show 7300000 ≤ room_1.slots by decide)⟩) (fun r u H locs hu h hS => ?_)
  obtain ⟨rfl, hu, hv⟩ := hu
  obtain ⟨S1, f1⟩ := u
  dsimp only at hu h hv
  have hu := hu.symm
  subst hu
  refine W.widen (k := cells + 12) (n := slots + 72) (by omega) (by omega) ?_
  refine lv_istore (lv' := [(5, .int (nI (cdAbout S rc (xs (i + 1)) (xs (i + 2)) (xs (i + 3))))), (4, .int (nI i)), (0, .ref b), (1, .ref (gA G 139)), (2, .ref (gA G' 0)), (3, .ref o)]) hx hb dL_law_863 hl (by decide) rfl (fun ls hl => ?_)
  refine lv_aload_n hx hb dL_law_865 rfl (lv_at hl 4 rfl) ?_
  refine lw_s hx hb hX hbl hS (k := 1) (by omega) hL (by decide) (lv_at hl 2 rfl) (lv_at hl 1 rfl) dL_law_866 dL_law_867 dL_law_869 dL_law_870 dL_law_871 ?_
  refine lw_s hx hb hX hbl hS (k := 2) (by omega) hL (by decide) (lv_at hl 2 rfl) (lv_at hl 1 rfl) dL_law_872 dL_law_873 dL_law_875 dL_law_876 dL_law_877 ?_
  refine lw_s hx hb hX hbl hS (k := 3) (by omega) hL (by decide) (lv_at hl 2 rfl) (lv_at hl 1 rfl) dL_law_878 dL_law_879 dL_law_881 dL_law_882 dL_law_883 ?_
  refine lw_Mi hG h hS (va_runV (As := [.int (xs (i + 1)), .int (xs (i + 2)), .int (xs (i + 3))]) (rest := []) hF (k_X3_about l G' M H.size hmrc hR.1.1.2.2.2.2.2.1 hR.1.1.2.2.2.2.2.2.1 (xs (i + 1)) (xs (i + 2)) (xs (i + 3))) (cwV 3 hF.2.2.2.2 lL_law_X3_about rfl rfl rfl (by decide +kernel) ⟨Nat.le_of_ble_eq_true rfl, Nat.le_of_ble_eq_true rfl⟩) ⟨mQ_blind, lw_rM h, lw_pM h⟩ rfl rfl hl.1 rfl (lv_room (Nat.le_of_ble_eq_true rfl)) dL_law_884 ⟨Nat.le_trans (by omega) (show 600000 ≤ room_1.cells by decide), Nat.le_trans (by omega) (show 7300000 ≤ room_1.slots by decide)⟩) (fun r u H locs hm h hS => ?_)
  obtain ⟨hr9, rfl⟩ := hm
  obtain ⟨ht0, rc1, nc1, hR1⟩ := st_ok (c := cdAbout S rc (xs (i + 1)) (xs (i + 2)) (xs (i + 3))) (mc := mcAbout (mT M) rc (xs (i + 1)) (xs (i + 2)) (xs (i + 3))) (C' := S) (D := mT M) hR hm0 (e_about hR _ _ _) (fun h9 => ⟨_, _, hR⟩)
  rw [ite_self] at hR1
  refine lv_istore (lv' := [(6, .int r), (5, .int (nI (cdAbout S rc (xs (i + 1)) (xs (i + 2)) (xs (i + 3))))), (4, .int (nI i)), (0, .ref b), (1, .ref (gA G 139)), (2, .ref (gA G' 0)), (3, .ref o)]) hx hb dL_law_887 hl (by decide) rfl (fun ls hl => ?_)
  refine lv_aload_n hx hb dL_law_889 rfl (lv_at hl 5 rfl) ?_
  refine pv_i (va_runV (As := []) (rest := []) hF (k_X3_thrown l G' _) (cwV 0 hF.2.2.2.2 lL_law_X3_thrown rfl rfl rfl (by decide +kernel) ⟨Nat.le_of_ble_eq_true rfl, Nat.le_of_ble_eq_true rfl⟩) ⟨mP_blind, lw_rM h, lw_pT h⟩ rfl rfl hl.1 rfl (lv_room (Nat.le_of_ble_eq_true rfl)) dL_law_890 ⟨Nat.le_trans (by omega) (show 600000 ≤ room_1.cells by decide), Nat.le_trans (by omega) (show 7300000 ≤ room_1.slots by decide)⟩) (fun r9 ht => ?_)
  subst ht
  rw [ht0]
  refine lv_iload hx hb dL_law_893 (lv_at hl 1 rfl) ?_
  refine lv_icmp_eq (tgt := 900) hx hb dL_law_895 (by decide) (fun _ => ?_) (fun h9 => absurd (congrArg nI (e_about hR _ _ _).symm) h9)
  refine lv_iload hx hb dL_law_900 (lv_at hl 1 rfl) ?_
  refine lv_if_ne (tgt := 917) hx hb dL_law_902 (by decide) (fun _ => ?_) (fun ha => ?_)
  · refine lv_goto (tgt := 1501) hx hb dL_law_917 (by decide) ?_
    exact kk H locs _ _ _ rc1 nc1 ls h hS hR1 (lv_sub hl [2, 3, 4, 5, 6] rfl)
  · have ha : cdAbout S rc (xs (i + 1)) (xs (i + 2)) (xs (i + 3)) = 0 := nI_z ha (cd_lt (by unfold cdAbout; (repeat' split) <;> omega))
    have hv := hv ha
    have hr9 := hr9 ((e_about hR _ _ _).symm.trans ha)
    refine lv_aload_n hx hb dL_law_905 rfl (lv_at hl 6 rfl) ?_
    refine lv_iconst (v := nI 0) hx hb dL_law_906 (by decide) ?_
    refine nv_lald hx hb h.2.2.2.1.1 h.2.2.1 0 1 rfl rfl (i := 0) (by decide) (by decide) dL_law_907 ?_
    refine lv_iload hx hb dL_law_908 (lv_at hl 0 rfl) ?_
    refine lv_i2l (v := r.toInt64) hx hb dL_law_910 rfl ?_
    refine W.lcmp hx hb dL_law_911 ?_
    refine cv_if_eq (tgt := 917) hx hb dL_law_912 (by decide) (fun _ => ?_) (fun h9 => absurd (hv.trans ((congrArg Int32.toInt64 ((a_about hR ha))).trans (congrArg Int32.toInt64 hr9.symm))) h9)
    refine lv_goto (tgt := 1501) hx hb dL_law_917 (by decide) ?_
    exact kk H locs _ _ _ rc1 nc1 ls h hS hR1 (lv_sub hl [2, 3, 4, 5, 6] rfl)
set_option maxRecDepth 100000 in
set_option maxHeartbeats 4000000 in
theorem lc_marks {p : Program} {l : Launch} {e : Env} {s : State} {m : MethodId} {below : List Frame} {meth : Method} {c : Code} (hlt : l.stackTraces = false) {b L : Nat} {xs : Nat → Int32} (hF : CallFix p m c cL_law 8 s #[Value.ref b] lw_tbl RL) (hX : va_X b L xs s s.heap) (hbl : b < s.heap.size) (hL : L ≤ 320) {G G' : GT} {o : Nat} (hG : LG s G G' o)
    {i : Nat} (hi : i + 5 ≤ L) {H : Heap} {locs : List Loc} {S M : SS} {f : Nat → Int64} (h : LH s G G' o H S M f) (hS : va_S (LAp s) s.heap H locs) {rc nc : Nat} (hR : RR S (mT M) rc nc) {cells slots : Nat} (hc : cells + 12 ≤ 600000 ∧ slots + 72 ≤ 7300000) {ls : Array Slot} (hl : lv_has ls 8 [(4, .int (nI i)), (0, .ref b), (1, .ref (gA G 139)), (2, .ref (gA G' 0)), (3, .ref o)]) {Q : State → Prop}
    (kk : ∀ (H1 : Heap) (locs1 : List Loc) (S1 M1 : SS) (f1 : Nat → Int64) (rc1 nc1 : Nat) (ls1 : Array Slot), LH s G G' o H1 S1 M1 f1 → va_S (LAp s) s.heap H1 locs1 → RR S1 (mT M1) rc1 nc1 → lv_has ls1 8 [(4, .int (nI i)), (0, .ref b), (1, .ref (gA G 139)), (2, .ref (gA G' 0)), (3, .ref o)] → W p l e room_1 s m #[Value.ref b] below meth c H1 locs1 (cells + 12) (slots + 72) Q (F0 m 1501 ls1 [])) :
    W p l e room_1 s m #[Value.ref b] below meth c H locs cells slots Q (F0 m 920 ls []) := by
  have hx := hF.1
  have hb := hF.2.1
  have ho := LG_o hG h
  have hm0 : (mT M).1 0 0 = nI 0 := hR.1.1.1
  have hmrc : M.1 0 1 = nI rc := (mT_0 M (by omega)).symm.trans hR.1.1.2.2.1
  have hmnc : M.1 0 3 = nI nc := (mT_0 M (by omega)).symm.trans hR.1.1.2.2.2.2.1
  refine lv_aload_n hx hb dL_law_920 rfl (lv_at hl 2 rfl) ?_
  refine lw_s hx hb hX hbl hS (k := 1) (by omega) hL (by decide) (lv_at hl 1 rfl) (lv_at hl 0 rfl) dL_law_921 dL_law_922 dL_law_924 dL_law_925 dL_law_926 ?_
  refine lw_s hx hb hX hbl hS (k := 2) (by omega) hL (by decide) (lv_at hl 1 rfl) (lv_at hl 0 rfl) dL_law_927 dL_law_928 dL_law_930 dL_law_931 dL_law_932 ?_
  refine lw_s hx hb hX hbl hS (k := 3) (by omega) hL (by decide) (lv_at hl 1 rfl) (lv_at hl 0 rfl) dL_law_933 dL_law_934 dL_law_936 dL_law_937 dL_law_938 ?_
  refine lv_aload_n hx hb dL_law_939 rfl (lv_at hl 4 rfl) ?_
  refine lw_C hG h hS (vx_runSW (As := [.ref (gA G 139), .int (xs (i + 1)), .int (xs (i + 2)), .int (xs (i + 3)), .ref o]) (rest := []) hF (k_L_marks l hlt G S H.size o f ho hR.1.1.2.1 hR.1.1.2.2.2.2.2.2.1 (xs (i + 1)) (xs (i + 2)) (xs (i + 3))) (vx_cwSW 5 hF.2.2.2.2 lL_law_L_marks rfl rfl rfl (by decide +kernel) ⟨Nat.le_of_ble_eq_true rfl, Nat.le_of_ble_eq_true rfl⟩) ⟨hP_blind, lw_pC h⟩ rfl rfl hl.1 rfl (lv_room (Nat.le_of_ble_eq_true rfl)) dL_law_940 ⟨Nat.le_trans (by omega) (show 600000 ≤ room_1.cells by decide), Nat.le_trans (by omega) (show 7300000 ≤ room_1.slots by decide)⟩) (fun r u H locs hu h hS => ?_)
  obtain ⟨rfl, hu, hv⟩ := hu
  obtain ⟨S1, f1⟩ := u
  dsimp only at hu h hv
  have hu := hu.symm
  subst hu
  refine W.widen (k := cells + 12) (n := slots + 72) (by omega) (by omega) ?_
  refine lv_istore (lv' := [(5, .int (nI (cdMarks S rc (xs (i + 1)) (xs (i + 2)) (xs (i + 3))))), (4, .int (nI i)), (0, .ref b), (1, .ref (gA G 139)), (2, .ref (gA G' 0)), (3, .ref o)]) hx hb dL_law_943 hl (by decide) rfl (fun ls hl => ?_)
  refine lv_aload_n hx hb dL_law_945 rfl (lv_at hl 4 rfl) ?_
  refine lw_s hx hb hX hbl hS (k := 1) (by omega) hL (by decide) (lv_at hl 2 rfl) (lv_at hl 1 rfl) dL_law_946 dL_law_947 dL_law_949 dL_law_950 dL_law_951 ?_
  refine lw_s hx hb hX hbl hS (k := 2) (by omega) hL (by decide) (lv_at hl 2 rfl) (lv_at hl 1 rfl) dL_law_952 dL_law_953 dL_law_955 dL_law_956 dL_law_957 ?_
  refine lw_s hx hb hX hbl hS (k := 3) (by omega) hL (by decide) (lv_at hl 2 rfl) (lv_at hl 1 rfl) dL_law_958 dL_law_959 dL_law_961 dL_law_962 dL_law_963 ?_
  refine lw_Ml hG h hS (va_runV (As := [.int (xs (i + 1)), .int (xs (i + 2)), .int (xs (i + 3))]) (rest := []) hF (k_X3_marks l G' M H.size hmrc hR.1.1.2.2.2.2.2.1 hR.1.1.2.2.2.2.2.2.1 (xs (i + 1)) (xs (i + 2)) (xs (i + 3))) (cwV 3 hF.2.2.2.2 lL_law_X3_marks rfl rfl rfl (by decide +kernel) ⟨Nat.le_of_ble_eq_true rfl, Nat.le_of_ble_eq_true rfl⟩) ⟨mQ_blind, lw_rM h, lw_pM h⟩ rfl rfl hl.1 rfl (lv_room (Nat.le_of_ble_eq_true rfl)) dL_law_964 ⟨Nat.le_trans (by omega) (show 600000 ≤ room_1.cells by decide), Nat.le_trans (by omega) (show 7300000 ≤ room_1.slots by decide)⟩) (fun r u H locs hm h hS => ?_)
  obtain ⟨hr9, rfl⟩ := hm
  obtain ⟨ht0, rc1, nc1, hR1⟩ := st_ok (c := cdMarks S rc (xs (i + 1)) (xs (i + 2)) (xs (i + 3))) (mc := mcMarks (mT M) rc (xs (i + 1)) (xs (i + 2)) (xs (i + 3))) (C' := S) (D := mT M) hR hm0 (e_marks hR _ _ _) (fun h9 => ⟨_, _, hR⟩)
  rw [ite_self] at hR1
  refine lv_lstore (lv' := [(6, .long r), (5, .int (nI (cdMarks S rc (xs (i + 1)) (xs (i + 2)) (xs (i + 3))))), (4, .int (nI i)), (0, .ref b), (1, .ref (gA G 139)), (2, .ref (gA G' 0)), (3, .ref o)]) hx hb dL_law_967 hl (by decide) rfl (fun ls hl => ?_)
  refine lv_aload_n hx hb dL_law_969 rfl (lv_at hl 5 rfl) ?_
  refine pv_i (va_runV (As := []) (rest := []) hF (k_X3_thrown l G' _) (cwV 0 hF.2.2.2.2 lL_law_X3_thrown rfl rfl rfl (by decide +kernel) ⟨Nat.le_of_ble_eq_true rfl, Nat.le_of_ble_eq_true rfl⟩) ⟨mP_blind, lw_rM h, lw_pT h⟩ rfl rfl hl.1 rfl (lv_room (Nat.le_of_ble_eq_true rfl)) dL_law_970 ⟨Nat.le_trans (by omega) (show 600000 ≤ room_1.cells by decide), Nat.le_trans (by omega) (show 7300000 ≤ room_1.slots by decide)⟩) (fun r9 ht => ?_)
  subst ht
  rw [ht0]
  refine lv_iload hx hb dL_law_973 (lv_at hl 1 rfl) ?_
  refine lv_icmp_eq (tgt := 980) hx hb dL_law_975 (by decide) (fun _ => ?_) (fun h9 => absurd (congrArg nI (e_marks hR _ _ _).symm) h9)
  refine lv_iload hx hb dL_law_980 (lv_at hl 1 rfl) ?_
  refine lv_if_ne (tgt := 996) hx hb dL_law_982 (by decide) (fun _ => ?_) (fun ha => ?_)
  · refine lv_goto (tgt := 1501) hx hb dL_law_996 (by decide) ?_
    exact kk H locs _ _ _ rc1 nc1 ls h hS hR1 (lv_sub hl [2, 3, 4, 5, 6] rfl)
  · have ha : cdMarks S rc (xs (i + 1)) (xs (i + 2)) (xs (i + 3)) = 0 := nI_z ha (cd_lt (by unfold cdMarks; (repeat' split) <;> omega))
    have hv := hv ha
    have hr9 := hr9 ((e_marks hR _ _ _).symm.trans ha)
    refine lv_aload_n hx hb dL_law_985 rfl (lv_at hl 6 rfl) ?_
    refine lv_iconst (v := nI 0) hx hb dL_law_986 (by decide) ?_
    refine nv_lald hx hb h.2.2.2.1.1 h.2.2.1 0 1 rfl rfl (i := 0) (by decide) (by decide) dL_law_987 ?_
    refine lv_lload hx hb dL_law_988 (lv_at hl 0 rfl) ?_
    refine W.lcmp hx hb dL_law_990 ?_
    refine cv_if_eq (tgt := 996) hx hb dL_law_991 (by decide) (fun _ => ?_) (fun h9 => absurd (hv.trans (((a_marks hR ha)).trans hr9.symm)) h9)
    refine lv_goto (tgt := 1501) hx hb dL_law_996 (by decide) ?_
    exact kk H locs _ _ _ rc1 nc1 ls h hS hR1 (lv_sub hl [2, 3, 4, 5, 6] rfl)
set_option maxRecDepth 100000 in
set_option maxHeartbeats 4000000 in
theorem lc_nodes {p : Program} {l : Launch} {e : Env} {s : State} {m : MethodId} {below : List Frame} {meth : Method} {c : Code} (hlt : l.stackTraces = false) {b L : Nat} {xs : Nat → Int32} (hF : CallFix p m c cL_law 8 s #[Value.ref b] lw_tbl RL) (hX : va_X b L xs s s.heap) (hbl : b < s.heap.size) (hL : L ≤ 320) {G G' : GT} {o : Nat} (hG : LG s G G' o)
    {i : Nat} (hi : i + 5 ≤ L) {H : Heap} {locs : List Loc} {S M : SS} {f : Nat → Int64} (h : LH s G G' o H S M f) (hS : va_S (LAp s) s.heap H locs) {rc nc : Nat} (hR : RR S (mT M) rc nc) {cells slots : Nat} (hc : cells + 12 ≤ 600000 ∧ slots + 72 ≤ 7300000) {ls : Array Slot} (hl : lv_has ls 8 [(4, .int (nI i)), (0, .ref b), (1, .ref (gA G 139)), (2, .ref (gA G' 0)), (3, .ref o)]) {Q : State → Prop}
    (kk : ∀ (H1 : Heap) (locs1 : List Loc) (S1 M1 : SS) (f1 : Nat → Int64) (rc1 nc1 : Nat) (ls1 : Array Slot), LH s G G' o H1 S1 M1 f1 → va_S (LAp s) s.heap H1 locs1 → RR S1 (mT M1) rc1 nc1 → lv_has ls1 8 [(4, .int (nI i)), (0, .ref b), (1, .ref (gA G 139)), (2, .ref (gA G' 0)), (3, .ref o)] → W p l e room_1 s m #[Value.ref b] below meth c H1 locs1 (cells + 12) (slots + 72) Q (F0 m 1501 ls1 [])) :
    W p l e room_1 s m #[Value.ref b] below meth c H locs cells slots Q (F0 m 999 ls []) := by
  have hx := hF.1
  have hb := hF.2.1
  have ho := LG_o hG h
  have hm0 : (mT M).1 0 0 = nI 0 := hR.1.1.1
  have hmrc : M.1 0 1 = nI rc := (mT_0 M (by omega)).symm.trans hR.1.1.2.2.1
  have hmnc : M.1 0 3 = nI nc := (mT_0 M (by omega)).symm.trans hR.1.1.2.2.2.2.1
  refine lv_aload_n hx hb dL_law_999 rfl (lv_at hl 2 rfl) ?_
  refine lw_s hx hb hX hbl hS (k := 1) (by omega) hL (by decide) (lv_at hl 1 rfl) (lv_at hl 0 rfl) dL_law_1000 dL_law_1001 dL_law_1003 dL_law_1004 dL_law_1005 ?_
  refine lw_s hx hb hX hbl hS (k := 2) (by omega) hL (by decide) (lv_at hl 1 rfl) (lv_at hl 0 rfl) dL_law_1006 dL_law_1007 dL_law_1009 dL_law_1010 dL_law_1011 ?_
  refine lv_aload_n hx hb dL_law_1012 rfl (lv_at hl 4 rfl) ?_
  refine lw_C hG h hS (vx_runSW (As := [.ref (gA G 139), .int (xs (i + 1)), .int (xs (i + 2)), .ref o]) (rest := []) hF (k_L_nodes l hlt G S H.size o f ho hR.1.1.2.1 hR.1.1.2.2.2.2.2.2.1 (xs (i + 1)) (xs (i + 2))) (vx_cwSW 4 hF.2.2.2.2 lL_law_L_nodes rfl rfl rfl (by decide +kernel) ⟨Nat.le_of_ble_eq_true rfl, Nat.le_of_ble_eq_true rfl⟩) ⟨hP_blind, lw_pC h⟩ rfl rfl hl.1 rfl (lv_room (Nat.le_of_ble_eq_true rfl)) dL_law_1013 ⟨Nat.le_trans (by omega) (show 600000 ≤ room_1.cells by decide), Nat.le_trans (by omega) (show 7300000 ≤ room_1.slots by decide)⟩) (fun r u H locs hu h hS => ?_)
  obtain ⟨rfl, hu, hv⟩ := hu
  obtain ⟨S1, f1⟩ := u
  dsimp only at hu h hv
  have hu := hu.symm
  subst hu
  refine W.widen (k := cells + 12) (n := slots + 72) (by omega) (by omega) ?_
  refine lv_istore (lv' := [(5, .int (nI (cdNodes S rc (xs (i + 1)) (xs (i + 2))))), (4, .int (nI i)), (0, .ref b), (1, .ref (gA G 139)), (2, .ref (gA G' 0)), (3, .ref o)]) hx hb dL_law_1016 hl (by decide) rfl (fun ls hl => ?_)
  refine lv_aload_n hx hb dL_law_1018 rfl (lv_at hl 4 rfl) ?_
  refine lw_s hx hb hX hbl hS (k := 1) (by omega) hL (by decide) (lv_at hl 2 rfl) (lv_at hl 1 rfl) dL_law_1019 dL_law_1020 dL_law_1022 dL_law_1023 dL_law_1024 ?_
  refine lw_s hx hb hX hbl hS (k := 2) (by omega) hL (by decide) (lv_at hl 2 rfl) (lv_at hl 1 rfl) dL_law_1025 dL_law_1026 dL_law_1028 dL_law_1029 dL_law_1030 ?_
  refine lw_Ml hG h hS (va_runV (As := [.int (xs (i + 1)), .int (xs (i + 2))]) (rest := []) hF (k_X3_nodes l G' M H.size hmrc hR.1.1.2.2.2.2.2.1 hR.1.1.2.2.2.2.2.2.1 (xs (i + 1)) (xs (i + 2))) (cwV 2 hF.2.2.2.2 lL_law_X3_nodes rfl rfl rfl (by decide +kernel) ⟨Nat.le_of_ble_eq_true rfl, Nat.le_of_ble_eq_true rfl⟩) ⟨mQ_blind, lw_rM h, lw_pM h⟩ rfl rfl hl.1 rfl (lv_room (Nat.le_of_ble_eq_true rfl)) dL_law_1031 ⟨Nat.le_trans (by omega) (show 600000 ≤ room_1.cells by decide), Nat.le_trans (by omega) (show 7300000 ≤ room_1.slots by decide)⟩) (fun r u H locs hm h hS => ?_)
  obtain ⟨hr9, rfl⟩ := hm
  obtain ⟨ht0, rc1, nc1, hR1⟩ := st_ok (c := cdNodes S rc (xs (i + 1)) (xs (i + 2))) (mc := mcNodes (mT M) rc (xs (i + 1)) (xs (i + 2))) (C' := S) (D := mT M) hR hm0 (e_nodes hR _ _) (fun h9 => ⟨_, _, hR⟩)
  rw [ite_self] at hR1
  refine lv_lstore (lv' := [(6, .long r), (5, .int (nI (cdNodes S rc (xs (i + 1)) (xs (i + 2))))), (4, .int (nI i)), (0, .ref b), (1, .ref (gA G 139)), (2, .ref (gA G' 0)), (3, .ref o)]) hx hb dL_law_1034 hl (by decide) rfl (fun ls hl => ?_)
  refine lv_aload_n hx hb dL_law_1036 rfl (lv_at hl 5 rfl) ?_
  refine pv_i (va_runV (As := []) (rest := []) hF (k_X3_thrown l G' _) (cwV 0 hF.2.2.2.2 lL_law_X3_thrown rfl rfl rfl (by decide +kernel) ⟨Nat.le_of_ble_eq_true rfl, Nat.le_of_ble_eq_true rfl⟩) ⟨mP_blind, lw_rM h, lw_pT h⟩ rfl rfl hl.1 rfl (lv_room (Nat.le_of_ble_eq_true rfl)) dL_law_1037 ⟨Nat.le_trans (by omega) (show 600000 ≤ room_1.cells by decide), Nat.le_trans (by omega) (show 7300000 ≤ room_1.slots by decide)⟩) (fun r9 ht => ?_)
  subst ht
  rw [ht0]
  refine lv_iload hx hb dL_law_1040 (lv_at hl 1 rfl) ?_
  refine lv_icmp_eq (tgt := 1047) hx hb dL_law_1042 (by decide) (fun _ => ?_) (fun h9 => absurd (congrArg nI (e_nodes hR _ _).symm) h9)
  refine lv_iload hx hb dL_law_1047 (lv_at hl 1 rfl) ?_
  refine lv_if_ne (tgt := 1063) hx hb dL_law_1049 (by decide) (fun _ => ?_) (fun ha => ?_)
  · refine lv_goto (tgt := 1501) hx hb dL_law_1063 (by decide) ?_
    exact kk H locs _ _ _ rc1 nc1 ls h hS hR1 (lv_sub hl [2, 3, 4, 5, 6] rfl)
  · have ha : cdNodes S rc (xs (i + 1)) (xs (i + 2)) = 0 := nI_z ha (cd_lt (by unfold cdNodes; (repeat' split) <;> omega))
    have hv := hv ha
    have hr9 := hr9 ((e_nodes hR _ _).symm.trans ha)
    refine lv_aload_n hx hb dL_law_1052 rfl (lv_at hl 6 rfl) ?_
    refine lv_iconst (v := nI 0) hx hb dL_law_1053 (by decide) ?_
    refine nv_lald hx hb h.2.2.2.1.1 h.2.2.1 0 1 rfl rfl (i := 0) (by decide) (by decide) dL_law_1054 ?_
    refine lv_lload hx hb dL_law_1055 (lv_at hl 0 rfl) ?_
    refine W.lcmp hx hb dL_law_1057 ?_
    refine cv_if_eq (tgt := 1063) hx hb dL_law_1058 (by decide) (fun _ => ?_) (fun h9 => absurd (hv.trans (((a_nodes hR ha)).trans hr9.symm)) h9)
    refine lv_goto (tgt := 1501) hx hb dL_law_1063 (by decide) ?_
    exact kk H locs _ _ _ rc1 nc1 ls h hS hR1 (lv_sub hl [2, 3, 4, 5, 6] rfl)
set_option maxRecDepth 100000 in
set_option maxHeartbeats 4000000 in
theorem lc_ancestors {p : Program} {l : Launch} {e : Env} {s : State} {m : MethodId} {below : List Frame} {meth : Method} {c : Code} (hlt : l.stackTraces = false) {b L : Nat} {xs : Nat → Int32} (hF : CallFix p m c cL_law 8 s #[Value.ref b] lw_tbl RL) (hX : va_X b L xs s s.heap) (hbl : b < s.heap.size) (hL : L ≤ 320) {G G' : GT} {o : Nat} (hG : LG s G G' o)
    {i : Nat} (hi : i + 5 ≤ L) {H : Heap} {locs : List Loc} {S M : SS} {f : Nat → Int64} (h : LH s G G' o H S M f) (hS : va_S (LAp s) s.heap H locs) {rc nc : Nat} (hR : RR S (mT M) rc nc) {cells slots : Nat} (hc : cells + 12 ≤ 600000 ∧ slots + 72 ≤ 7300000) {ls : Array Slot} (hl : lv_has ls 8 [(4, .int (nI i)), (0, .ref b), (1, .ref (gA G 139)), (2, .ref (gA G' 0)), (3, .ref o)]) {Q : State → Prop}
    (kk : ∀ (H1 : Heap) (locs1 : List Loc) (S1 M1 : SS) (f1 : Nat → Int64) (rc1 nc1 : Nat) (ls1 : Array Slot), LH s G G' o H1 S1 M1 f1 → va_S (LAp s) s.heap H1 locs1 → RR S1 (mT M1) rc1 nc1 → lv_has ls1 8 [(4, .int (nI i)), (0, .ref b), (1, .ref (gA G 139)), (2, .ref (gA G' 0)), (3, .ref o)] → W p l e room_1 s m #[Value.ref b] below meth c H1 locs1 (cells + 12) (slots + 72) Q (F0 m 1501 ls1 [])) :
    W p l e room_1 s m #[Value.ref b] below meth c H locs cells slots Q (F0 m 1066 ls []) := by
  have hx := hF.1
  have hb := hF.2.1
  have ho := LG_o hG h
  have hm0 : (mT M).1 0 0 = nI 0 := hR.1.1.1
  have hmrc : M.1 0 1 = nI rc := (mT_0 M (by omega)).symm.trans hR.1.1.2.2.1
  have hmnc : M.1 0 3 = nI nc := (mT_0 M (by omega)).symm.trans hR.1.1.2.2.2.2.1
  refine lv_aload_n hx hb dL_law_1066 rfl (lv_at hl 2 rfl) ?_
  refine lw_s hx hb hX hbl hS (k := 1) (by omega) hL (by decide) (lv_at hl 1 rfl) (lv_at hl 0 rfl) dL_law_1067 dL_law_1068 dL_law_1070 dL_law_1071 dL_law_1072 ?_
  refine lv_aload_n hx hb dL_law_1073 rfl (lv_at hl 4 rfl) ?_
  refine lw_C hG h hS (vx_runSW (As := [.ref (gA G 139), .int (xs (i + 1)), .ref o]) (rest := []) hF (k_L_ancestors l hlt G S H.size o f ho hR.1.1.2.1 hR.1.1.2.2.2.2.2.2.1 (xs (i + 1))) (vx_cwSW 3 hF.2.2.2.2 lL_law_L_ancestors rfl rfl rfl (by decide +kernel) ⟨Nat.le_of_ble_eq_true rfl, Nat.le_of_ble_eq_true rfl⟩) ⟨hP_blind, lw_pC h⟩ rfl rfl hl.1 rfl (lv_room (Nat.le_of_ble_eq_true rfl)) dL_law_1074 ⟨Nat.le_trans (by omega) (show 600000 ≤ room_1.cells by decide), Nat.le_trans (by omega) (show 7300000 ≤ room_1.slots by decide)⟩) (fun r u H locs hu h hS => ?_)
  obtain ⟨rfl, hu, hv⟩ := hu
  obtain ⟨S1, f1⟩ := u
  dsimp only at hu h hv
  have hu := hu.symm
  subst hu
  refine W.widen (k := cells + 12) (n := slots + 72) (by omega) (by omega) ?_
  refine lv_istore (lv' := [(5, .int (nI (cdAnc rc (xs (i + 1))))), (4, .int (nI i)), (0, .ref b), (1, .ref (gA G 139)), (2, .ref (gA G' 0)), (3, .ref o)]) hx hb dL_law_1077 hl (by decide) rfl (fun ls hl => ?_)
  refine lv_aload_n hx hb dL_law_1079 rfl (lv_at hl 4 rfl) ?_
  refine lw_s hx hb hX hbl hS (k := 1) (by omega) hL (by decide) (lv_at hl 2 rfl) (lv_at hl 1 rfl) dL_law_1080 dL_law_1081 dL_law_1083 dL_law_1084 dL_law_1085 ?_
  refine lw_Ml hG h hS (va_runV (As := [.int (xs (i + 1))]) (rest := []) hF (k_X3_ancestors l G' M H.size hmrc hR.1.1.2.2.2.2.2.1 hR.1.1.2.2.2.2.2.2.1 (xs (i + 1))) (cwV 1 hF.2.2.2.2 lL_law_X3_ancestors rfl rfl rfl (by decide +kernel) ⟨Nat.le_of_ble_eq_true rfl, Nat.le_of_ble_eq_true rfl⟩) ⟨mQ_blind, lw_rM h, lw_pM h⟩ rfl rfl hl.1 rfl (lv_room (Nat.le_of_ble_eq_true rfl)) dL_law_1086 ⟨Nat.le_trans (by omega) (show 600000 ≤ room_1.cells by decide), Nat.le_trans (by omega) (show 7300000 ≤ room_1.slots by decide)⟩) (fun r u H locs hm h hS => ?_)
  obtain ⟨hr9, rfl⟩ := hm
  obtain ⟨ht0, rc1, nc1, hR1⟩ := st_ok (c := cdAnc rc (xs (i + 1))) (mc := cdAnc rc (xs (i + 1))) (C' := S) (D := mT M) hR hm0 (rfl) (fun h9 => ⟨_, _, hR⟩)
  rw [ite_self] at hR1
  refine lv_lstore (lv' := [(6, .long r), (5, .int (nI (cdAnc rc (xs (i + 1))))), (4, .int (nI i)), (0, .ref b), (1, .ref (gA G 139)), (2, .ref (gA G' 0)), (3, .ref o)]) hx hb dL_law_1089 hl (by decide) rfl (fun ls hl => ?_)
  refine lv_aload_n hx hb dL_law_1091 rfl (lv_at hl 5 rfl) ?_
  refine pv_i (va_runV (As := []) (rest := []) hF (k_X3_thrown l G' _) (cwV 0 hF.2.2.2.2 lL_law_X3_thrown rfl rfl rfl (by decide +kernel) ⟨Nat.le_of_ble_eq_true rfl, Nat.le_of_ble_eq_true rfl⟩) ⟨mP_blind, lw_rM h, lw_pT h⟩ rfl rfl hl.1 rfl (lv_room (Nat.le_of_ble_eq_true rfl)) dL_law_1092 ⟨Nat.le_trans (by omega) (show 600000 ≤ room_1.cells by decide), Nat.le_trans (by omega) (show 7300000 ≤ room_1.slots by decide)⟩) (fun r9 ht => ?_)
  subst ht
  rw [ht0]
  refine lv_iload hx hb dL_law_1095 (lv_at hl 1 rfl) ?_
  refine lv_icmp_eq (tgt := 1102) hx hb dL_law_1097 (by decide) (fun _ => ?_) (fun h9 => absurd (congrArg nI (rfl).symm) h9)
  refine lv_iload hx hb dL_law_1102 (lv_at hl 1 rfl) ?_
  refine lv_if_ne (tgt := 1118) hx hb dL_law_1104 (by decide) (fun _ => ?_) (fun ha => ?_)
  · refine lv_goto (tgt := 1501) hx hb dL_law_1118 (by decide) ?_
    exact kk H locs _ _ _ rc1 nc1 ls h hS hR1 (lv_sub hl [2, 3, 4, 5, 6] rfl)
  · have ha : cdAnc rc (xs (i + 1)) = 0 := nI_z ha (cd_lt (by unfold cdAnc; (repeat' split) <;> omega))
    have hv := hv ha
    have hr9 := hr9 ((rfl).symm.trans ha)
    refine lv_aload_n hx hb dL_law_1107 rfl (lv_at hl 6 rfl) ?_
    refine lv_iconst (v := nI 0) hx hb dL_law_1108 (by decide) ?_
    refine nv_lald hx hb h.2.2.2.1.1 h.2.2.1 0 1 rfl rfl (i := 0) (by decide) (by decide) dL_law_1109 ?_
    refine lv_lload hx hb dL_law_1110 (lv_at hl 0 rfl) ?_
    refine W.lcmp hx hb dL_law_1112 ?_
    refine cv_if_eq (tgt := 1118) hx hb dL_law_1113 (by decide) (fun _ => ?_) (fun h9 => absurd (hv.trans (((a_anc hR ha)).trans hr9.symm)) h9)
    refine lv_goto (tgt := 1501) hx hb dL_law_1118 (by decide) ?_
    exact kk H locs _ _ _ rc1 nc1 ls h hS hR1 (lv_sub hl [2, 3, 4, 5, 6] rfl)
set_option maxRecDepth 100000 in
set_option maxHeartbeats 4000000 in
theorem lc_certify {p : Program} {l : Launch} {e : Env} {s : State} {m : MethodId} {below : List Frame} {meth : Method} {c : Code} (hlt : l.stackTraces = false) {b L : Nat} {xs : Nat → Int32} (hF : CallFix p m c cL_law 8 s #[Value.ref b] lw_tbl RL) (hX : va_X b L xs s s.heap) (hbl : b < s.heap.size) (hL : L ≤ 320) {G G' : GT} {o : Nat} (hG : LG s G G' o)
    {i : Nat} (hi : i + 5 ≤ L) {H : Heap} {locs : List Loc} {S M : SS} {f : Nat → Int64} (h : LH s G G' o H S M f) (hS : va_S (LAp s) s.heap H locs) {rc nc : Nat} (hR : RR S (mT M) rc nc) {cells slots : Nat} (hc : cells + 12 ≤ 600000 ∧ slots + 72 ≤ 7300000) {ls : Array Slot} (hl : lv_has ls 8 [(4, .int (nI i)), (0, .ref b), (1, .ref (gA G 139)), (2, .ref (gA G' 0)), (3, .ref o)]) {Q : State → Prop}
    (kk : ∀ (H1 : Heap) (locs1 : List Loc) (S1 M1 : SS) (f1 : Nat → Int64) (rc1 nc1 : Nat) (ls1 : Array Slot), LH s G G' o H1 S1 M1 f1 → va_S (LAp s) s.heap H1 locs1 → RR S1 (mT M1) rc1 nc1 → lv_has ls1 8 [(4, .int (nI i)), (0, .ref b), (1, .ref (gA G 139)), (2, .ref (gA G' 0)), (3, .ref o)] → W p l e room_1 s m #[Value.ref b] below meth c H1 locs1 (cells + 12) (slots + 72) Q (F0 m 1501 ls1 [])) :
    W p l e room_1 s m #[Value.ref b] below meth c H locs cells slots Q (F0 m 1121 ls []) := by
  have hx := hF.1
  have hb := hF.2.1
  have ho := LG_o hG h
  have hm0 : (mT M).1 0 0 = nI 0 := hR.1.1.1
  have hmrc : M.1 0 1 = nI rc := (mT_0 M (by omega)).symm.trans hR.1.1.2.2.1
  have hmnc : M.1 0 3 = nI nc := (mT_0 M (by omega)).symm.trans hR.1.1.2.2.2.2.1
  refine lv_aload_n hx hb dL_law_1121 rfl (lv_at hl 2 rfl) ?_
  refine lw_s hx hb hX hbl hS (k := 1) (by omega) hL (by decide) (lv_at hl 1 rfl) (lv_at hl 0 rfl) dL_law_1122 dL_law_1123 dL_law_1125 dL_law_1126 dL_law_1127 ?_
  refine lw_s hx hb hX hbl hS (k := 2) (by omega) hL (by decide) (lv_at hl 1 rfl) (lv_at hl 0 rfl) dL_law_1128 dL_law_1129 dL_law_1131 dL_law_1132 dL_law_1133 ?_
  refine lw_s hx hb hX hbl hS (k := 3) (by omega) hL (by decide) (lv_at hl 1 rfl) (lv_at hl 0 rfl) dL_law_1134 dL_law_1135 dL_law_1137 dL_law_1138 dL_law_1139 ?_
  refine lw_s hx hb hX hbl hS (k := 4) (by omega) hL (by decide) (lv_at hl 1 rfl) (lv_at hl 0 rfl) dL_law_1140 dL_law_1141 dL_law_1143 dL_law_1144 dL_law_1145 ?_
  refine lv_aload_n hx hb dL_law_1146 rfl (lv_at hl 4 rfl) ?_
  refine lw_C hG h hS (vx_runSW (As := [.ref (gA G 139), .int (xs (i + 1)), .int (xs (i + 2)), .int (xs (i + 3)), .int (xs (i + 4)), .ref o]) (rest := []) hF (k_L_certify l hlt G S H.size o f ho hR.1.1.2.1 hR.1.1.2.2.2.2.2.2.1 (xs (i + 1)) (xs (i + 2)) (xs (i + 3)) (xs (i + 4))) (vx_cwSW 6 hF.2.2.2.2 lL_law_L_certify rfl rfl rfl (by decide +kernel) ⟨Nat.le_of_ble_eq_true rfl, Nat.le_of_ble_eq_true rfl⟩) ⟨hP_blind, lw_pC h⟩ rfl rfl hl.1 rfl (lv_room (Nat.le_of_ble_eq_true rfl)) dL_law_1147 ⟨Nat.le_trans (by omega) (show 600000 ≤ room_1.cells by decide), Nat.le_trans (by omega) (show 7300000 ≤ room_1.slots by decide)⟩) (fun r u H locs hu h hS => ?_)
  obtain ⟨rfl, hu, hv⟩ := hu
  obtain ⟨S1, f1⟩ := u
  dsimp only at hu h hv
  subst hu
  refine W.widen (k := cells + 12) (n := slots + 72) (by omega) (by omega) ?_
  refine lv_istore (lv' := [(5, .int (nI (cdCertify S rc (xs (i + 1)) (xs (i + 2)) (xs (i + 3)) (xs (i + 4))))), (4, .int (nI i)), (0, .ref b), (1, .ref (gA G 139)), (2, .ref (gA G' 0)), (3, .ref o)]) hx hb dL_law_1150 hl (by decide) rfl (fun ls hl => ?_)
  refine lv_aload_n hx hb dL_law_1152 rfl (lv_at hl 4 rfl) ?_
  refine lw_s hx hb hX hbl hS (k := 1) (by omega) hL (by decide) (lv_at hl 2 rfl) (lv_at hl 1 rfl) dL_law_1153 dL_law_1154 dL_law_1156 dL_law_1157 dL_law_1158 ?_
  refine lw_s hx hb hX hbl hS (k := 2) (by omega) hL (by decide) (lv_at hl 2 rfl) (lv_at hl 1 rfl) dL_law_1159 dL_law_1160 dL_law_1162 dL_law_1163 dL_law_1164 ?_
  refine lw_s hx hb hX hbl hS (k := 3) (by omega) hL (by decide) (lv_at hl 2 rfl) (lv_at hl 1 rfl) dL_law_1165 dL_law_1166 dL_law_1168 dL_law_1169 dL_law_1170 ?_
  refine lw_s hx hb hX hbl hS (k := 4) (by omega) hL (by decide) (lv_at hl 2 rfl) (lv_at hl 1 rfl) dL_law_1171 dL_law_1172 dL_law_1174 dL_law_1175 dL_law_1176 ?_
  refine lw_Mi hG h hS (va_runV (As := [.int (xs (i + 1)), .int (xs (i + 2)), .int (xs (i + 3)), .int (xs (i + 4))]) (rest := []) hF (k_X3_certify l G' M H.size hmrc hR.1.1.2.2.2.2.2.1 hR.1.1.2.2.2.2.2.2.1 (xs (i + 1)) (xs (i + 2)) (xs (i + 3)) (xs (i + 4))) (cwV 4 hF.2.2.2.2 lL_law_X3_certify rfl rfl rfl (by decide +kernel) ⟨Nat.le_of_ble_eq_true rfl, Nat.le_of_ble_eq_true rfl⟩) ⟨mQ_blind, lw_rM h, lw_pM h⟩ rfl rfl hl.1 rfl (lv_room (Nat.le_of_ble_eq_true rfl)) dL_law_1177 ⟨Nat.le_trans (by omega) (show 600000 ≤ room_1.cells by decide), Nat.le_trans (by omega) (show 7300000 ≤ room_1.slots by decide)⟩) (fun r u H locs hm h hS => ?_)
  obtain ⟨hr9, rfl⟩ := hm
  obtain ⟨ht0, rc1, nc1, hR1⟩ := st_ok (c := cdCertify S rc (xs (i + 1)) (xs (i + 2)) (xs (i + 3)) (xs (i + 4))) (mc := mcCertify (mT M) rc (xs (i + 1)) (xs (i + 2)) (xs (i + 3)) (xs (i + 4))) hR hm0 (e_certify hR _ _ _ _) (fun h9 => ⟨_, _, p_certify hR h9⟩)
  refine lv_istore (lv' := [(6, .int r), (5, .int (nI (cdCertify S rc (xs (i + 1)) (xs (i + 2)) (xs (i + 3)) (xs (i + 4))))), (4, .int (nI i)), (0, .ref b), (1, .ref (gA G 139)), (2, .ref (gA G' 0)), (3, .ref o)]) hx hb dL_law_1180 hl (by decide) rfl (fun ls hl => ?_)
  refine lv_aload_n hx hb dL_law_1182 rfl (lv_at hl 5 rfl) ?_
  refine pv_i (va_runV (As := []) (rest := []) hF (k_X3_thrown l G' _) (cwV 0 hF.2.2.2.2 lL_law_X3_thrown rfl rfl rfl (by decide +kernel) ⟨Nat.le_of_ble_eq_true rfl, Nat.le_of_ble_eq_true rfl⟩) ⟨mP_blind, lw_rM h, lw_pT h⟩ rfl rfl hl.1 rfl (lv_room (Nat.le_of_ble_eq_true rfl)) dL_law_1183 ⟨Nat.le_trans (by omega) (show 600000 ≤ room_1.cells by decide), Nat.le_trans (by omega) (show 7300000 ≤ room_1.slots by decide)⟩) (fun r9 ht => ?_)
  subst ht
  rw [ht0]
  refine lv_iload hx hb dL_law_1186 (lv_at hl 1 rfl) ?_
  refine lv_icmp_eq (tgt := 1193) hx hb dL_law_1188 (by decide) (fun _ => ?_) (fun h9 => absurd (congrArg nI (e_certify hR _ _ _ _).symm) h9)
  refine lv_iload hx hb dL_law_1193 (lv_at hl 1 rfl) ?_
  refine lv_if_ne (tgt := 1217) hx hb dL_law_1195 (by decide) (fun _ => ?_) (fun ha => ?_)
  · refine lv_goto (tgt := 1501) hx hb dL_law_1217 (by decide) ?_
    exact kk H locs _ _ _ rc1 nc1 ls h hS hR1 (lv_sub hl [2, 3, 4, 5, 6] rfl)
  · have ha : cdCertify S rc (xs (i + 1)) (xs (i + 2)) (xs (i + 3)) (xs (i + 4)) = 0 := nI_z ha (cd_lt (by unfold cdCertify; (repeat' split) <;> omega))
    have hv := hv ha
    have hr9 := hr9 ((e_certify hR _ _ _ _).symm.trans ha)
    refine lv_aload_n hx hb dL_law_1198 rfl (lv_at hl 6 rfl) ?_
    refine lv_iconst (v := nI 0) hx hb dL_law_1199 (by decide) ?_
    refine nv_lald hx hb h.2.2.2.1.1 h.2.2.1 0 1 rfl rfl (i := 0) (by decide) (by decide) dL_law_1200 ?_
    refine lv_iload hx hb dL_law_1201 (lv_at hl 0 rfl) ?_
    refine lw_z hx hb dL_law_1203 dL_law_1206 dL_law_1207 dL_law_1210 ?_
    refine W.lcmp hx hb dL_law_1211 ?_
    refine cv_if_eq (tgt := 1217) hx hb dL_law_1212 (by decide) (fun _ => ?_) (fun h9 => absurd (hv.trans (lz_eq (by rw [a_certify hR ha]) hr9)) h9)
    refine lv_goto (tgt := 1501) hx hb dL_law_1217 (by decide) ?_
    exact kk H locs _ _ _ rc1 nc1 ls h hS hR1 (lv_sub hl [2, 3, 4, 5, 6] rfl)
set_option maxRecDepth 100000 in
set_option maxHeartbeats 4000000 in
theorem lc_trust {p : Program} {l : Launch} {e : Env} {s : State} {m : MethodId} {below : List Frame} {meth : Method} {c : Code} (hlt : l.stackTraces = false) {b L : Nat} {xs : Nat → Int32} (hF : CallFix p m c cL_law 8 s #[Value.ref b] lw_tbl RL) (hX : va_X b L xs s s.heap) (hbl : b < s.heap.size) (hL : L ≤ 320) {G G' : GT} {o : Nat} (hG : LG s G G' o)
    {i : Nat} (hi : i + 5 ≤ L) {H : Heap} {locs : List Loc} {S M : SS} {f : Nat → Int64} (h : LH s G G' o H S M f) (hS : va_S (LAp s) s.heap H locs) {rc nc : Nat} (hR : RR S (mT M) rc nc) {cells slots : Nat} (hc : cells + 12 ≤ 600000 ∧ slots + 72 ≤ 7300000) {ls : Array Slot} (hl : lv_has ls 8 [(4, .int (nI i)), (0, .ref b), (1, .ref (gA G 139)), (2, .ref (gA G' 0)), (3, .ref o)]) {Q : State → Prop}
    (kk : ∀ (H1 : Heap) (locs1 : List Loc) (S1 M1 : SS) (f1 : Nat → Int64) (rc1 nc1 : Nat) (ls1 : Array Slot), LH s G G' o H1 S1 M1 f1 → va_S (LAp s) s.heap H1 locs1 → RR S1 (mT M1) rc1 nc1 → lv_has ls1 8 [(4, .int (nI i)), (0, .ref b), (1, .ref (gA G 139)), (2, .ref (gA G' 0)), (3, .ref o)] → W p l e room_1 s m #[Value.ref b] below meth c H1 locs1 (cells + 12) (slots + 72) Q (F0 m 1501 ls1 [])) :
    W p l e room_1 s m #[Value.ref b] below meth c H locs cells slots Q (F0 m 1220 ls []) := by
  have hx := hF.1
  have hb := hF.2.1
  have ho := LG_o hG h
  have hm0 : (mT M).1 0 0 = nI 0 := hR.1.1.1
  have hmrc : M.1 0 1 = nI rc := (mT_0 M (by omega)).symm.trans hR.1.1.2.2.1
  have hmnc : M.1 0 3 = nI nc := (mT_0 M (by omega)).symm.trans hR.1.1.2.2.2.2.1
  refine lv_aload_n hx hb dL_law_1220 rfl (lv_at hl 2 rfl) ?_
  refine lw_s hx hb hX hbl hS (k := 1) (by omega) hL (by decide) (lv_at hl 1 rfl) (lv_at hl 0 rfl) dL_law_1221 dL_law_1222 dL_law_1224 dL_law_1225 dL_law_1226 ?_
  refine lw_s hx hb hX hbl hS (k := 2) (by omega) hL (by decide) (lv_at hl 1 rfl) (lv_at hl 0 rfl) dL_law_1227 dL_law_1228 dL_law_1230 dL_law_1231 dL_law_1232 ?_
  refine lw_s hx hb hX hbl hS (k := 3) (by omega) hL (by decide) (lv_at hl 1 rfl) (lv_at hl 0 rfl) dL_law_1233 dL_law_1234 dL_law_1236 dL_law_1237 dL_law_1238 ?_
  refine lw_b hx hb dL_law_1239 dL_law_1242 dL_law_1243 dL_law_1246 ?_
  refine lv_aload_n hx hb dL_law_1247 rfl (lv_at hl 4 rfl) ?_
  refine lw_C hG h hS (vx_runSW (As := [.ref (gA G 139), .int (xs (i + 1)), .int (xs (i + 2)), .int (bI (!(xs (i + 3) == 0))), .ref o]) (rest := []) hF (k_L_trust l hlt G S H.size o f ho  (xs (i + 1)) (xs (i + 2)) (!(xs (i + 3) == 0))) (vx_cwSW 5 hF.2.2.2.2 lL_law_L_trust rfl rfl rfl (by decide +kernel) ⟨Nat.le_of_ble_eq_true rfl, Nat.le_of_ble_eq_true rfl⟩) ⟨hP_blind, lw_pC h⟩ rfl rfl hl.1 rfl (lv_room (Nat.le_of_ble_eq_true rfl)) dL_law_1248 ⟨Nat.le_trans (by omega) (show 600000 ≤ room_1.cells by decide), Nat.le_trans (by omega) (show 7300000 ≤ room_1.slots by decide)⟩) (fun r u H locs hu h hS => ?_)
  obtain ⟨rfl, hu, hv⟩ := hu
  obtain ⟨S1, f1⟩ := u
  dsimp only at hu h hv
  subst hu
  refine W.widen (k := cells + 12) (n := slots + 72) (by omega) (by omega) ?_
  refine lv_istore (lv' := [(5, .int (nI (cdTrust (xs (i + 1)) (xs (i + 2))))), (4, .int (nI i)), (0, .ref b), (1, .ref (gA G 139)), (2, .ref (gA G' 0)), (3, .ref o)]) hx hb dL_law_1251 hl (by decide) rfl (fun ls hl => ?_)
  refine lv_aload_n hx hb dL_law_1253 rfl (lv_at hl 4 rfl) ?_
  refine lw_s hx hb hX hbl hS (k := 1) (by omega) hL (by decide) (lv_at hl 2 rfl) (lv_at hl 1 rfl) dL_law_1254 dL_law_1255 dL_law_1257 dL_law_1258 dL_law_1259 ?_
  refine lw_s hx hb hX hbl hS (k := 2) (by omega) hL (by decide) (lv_at hl 2 rfl) (lv_at hl 1 rfl) dL_law_1260 dL_law_1261 dL_law_1263 dL_law_1264 dL_law_1265 ?_
  refine lw_s hx hb hX hbl hS (k := 3) (by omega) hL (by decide) (lv_at hl 2 rfl) (lv_at hl 1 rfl) dL_law_1266 dL_law_1267 dL_law_1269 dL_law_1270 dL_law_1271 ?_
  refine lw_b hx hb dL_law_1272 dL_law_1275 dL_law_1276 dL_law_1279 ?_
  refine lw_Mi hG h hS (va_runV (As := [.int (xs (i + 1)), .int (xs (i + 2)), .int (bI (!(xs (i + 3) == 0)))]) (rest := []) hF (k_X3_trust l G' M H.size  (xs (i + 1)) (xs (i + 2)) (!(xs (i + 3) == 0))) (cwV 3 hF.2.2.2.2 lL_law_X3_trust rfl rfl rfl (by decide +kernel) ⟨Nat.le_of_ble_eq_true rfl, Nat.le_of_ble_eq_true rfl⟩) ⟨mQ_blind, lw_rM h, lw_pM h⟩ rfl rfl hl.1 rfl (lv_room (Nat.le_of_ble_eq_true rfl)) dL_law_1280 ⟨Nat.le_trans (by omega) (show 600000 ≤ room_1.cells by decide), Nat.le_trans (by omega) (show 7300000 ≤ room_1.slots by decide)⟩) (fun r u H locs hm h hS => ?_)
  obtain ⟨hr9, rfl⟩ := hm
  obtain ⟨ht0, rc1, nc1, hR1⟩ := st_ok (c := cdTrust (xs (i + 1)) (xs (i + 2))) (mc := cdTrust (xs (i + 1)) (xs (i + 2))) hR hm0 (rfl) (fun h9 => ⟨_, _, p_trust hR h9⟩)
  refine lv_istore (lv' := [(6, .int r), (5, .int (nI (cdTrust (xs (i + 1)) (xs (i + 2))))), (4, .int (nI i)), (0, .ref b), (1, .ref (gA G 139)), (2, .ref (gA G' 0)), (3, .ref o)]) hx hb dL_law_1283 hl (by decide) rfl (fun ls hl => ?_)
  refine lv_aload_n hx hb dL_law_1285 rfl (lv_at hl 5 rfl) ?_
  refine pv_i (va_runV (As := []) (rest := []) hF (k_X3_thrown l G' _) (cwV 0 hF.2.2.2.2 lL_law_X3_thrown rfl rfl rfl (by decide +kernel) ⟨Nat.le_of_ble_eq_true rfl, Nat.le_of_ble_eq_true rfl⟩) ⟨mP_blind, lw_rM h, lw_pT h⟩ rfl rfl hl.1 rfl (lv_room (Nat.le_of_ble_eq_true rfl)) dL_law_1286 ⟨Nat.le_trans (by omega) (show 600000 ≤ room_1.cells by decide), Nat.le_trans (by omega) (show 7300000 ≤ room_1.slots by decide)⟩) (fun r9 ht => ?_)
  subst ht
  rw [ht0]
  refine lv_iload hx hb dL_law_1289 (lv_at hl 1 rfl) ?_
  refine lv_icmp_eq (tgt := 1296) hx hb dL_law_1291 (by decide) (fun _ => ?_) (fun h9 => absurd (congrArg nI (rfl).symm) h9)
  refine lv_iload hx hb dL_law_1296 (lv_at hl 1 rfl) ?_
  refine lv_if_ne (tgt := 1320) hx hb dL_law_1298 (by decide) (fun _ => ?_) (fun ha => ?_)
  · refine lv_goto (tgt := 1501) hx hb dL_law_1320 (by decide) ?_
    exact kk H locs _ _ _ rc1 nc1 ls h hS hR1 (lv_sub hl [2, 3, 4, 5, 6] rfl)
  · have ha : cdTrust (xs (i + 1)) (xs (i + 2)) = 0 := nI_z ha (cd_lt (by unfold cdTrust; (repeat' split) <;> omega))
    have hv := hv ha
    have hr9 := hr9 ((rfl).symm.trans ha)
    refine lv_aload_n hx hb dL_law_1301 rfl (lv_at hl 6 rfl) ?_
    refine lv_iconst (v := nI 0) hx hb dL_law_1302 (by decide) ?_
    refine nv_lald hx hb h.2.2.2.1.1 h.2.2.1 0 1 rfl rfl (i := 0) (by decide) (by decide) dL_law_1303 ?_
    refine lv_iload hx hb dL_law_1304 (lv_at hl 0 rfl) ?_
    refine lw_z hx hb dL_law_1306 dL_law_1309 dL_law_1310 dL_law_1313 ?_
    refine W.lcmp hx hb dL_law_1314 ?_
    refine cv_if_eq (tgt := 1320) hx hb dL_law_1315 (by decide) (fun _ => ?_) (fun h9 => absurd (hv.trans (lz_eq (by rw [a_trust hR ha]) hr9)) h9)
    refine lv_goto (tgt := 1501) hx hb dL_law_1320 (by decide) ?_
    exact kk H locs _ _ _ rc1 nc1 ls h hS hR1 (lv_sub hl [2, 3, 4, 5, 6] rfl)
set_option maxRecDepth 100000 in
set_option maxHeartbeats 4000000 in
theorem lc_heads {p : Program} {l : Launch} {e : Env} {s : State} {m : MethodId} {below : List Frame} {meth : Method} {c : Code} (hlt : l.stackTraces = false) {b L : Nat} {xs : Nat → Int32} (hF : CallFix p m c cL_law 8 s #[Value.ref b] lw_tbl RL) (hX : va_X b L xs s s.heap) (hbl : b < s.heap.size) (hL : L ≤ 320) {G G' : GT} {o : Nat} (hG : LG s G G' o)
    {i : Nat} (hi : i + 5 ≤ L) {H : Heap} {locs : List Loc} {S M : SS} {f : Nat → Int64} (h : LH s G G' o H S M f) (hS : va_S (LAp s) s.heap H locs) {rc nc : Nat} (hR : RR S (mT M) rc nc) {cells slots : Nat} (hc : cells + 12 ≤ 600000 ∧ slots + 72 ≤ 7300000) {ls : Array Slot} (hl : lv_has ls 8 [(4, .int (nI i)), (0, .ref b), (1, .ref (gA G 139)), (2, .ref (gA G' 0)), (3, .ref o)]) {Q : State → Prop}
    (kk : ∀ (H1 : Heap) (locs1 : List Loc) (S1 M1 : SS) (f1 : Nat → Int64) (rc1 nc1 : Nat) (ls1 : Array Slot), LH s G G' o H1 S1 M1 f1 → va_S (LAp s) s.heap H1 locs1 → RR S1 (mT M1) rc1 nc1 → lv_has ls1 8 [(4, .int (nI i)), (0, .ref b), (1, .ref (gA G 139)), (2, .ref (gA G' 0)), (3, .ref o)] → W p l e room_1 s m #[Value.ref b] below meth c H1 locs1 (cells + 12) (slots + 72) Q (F0 m 1501 ls1 [])) :
    W p l e room_1 s m #[Value.ref b] below meth c H locs cells slots Q (F0 m 1323 ls []) := by
  have hx := hF.1
  have hb := hF.2.1
  have ho := LG_o hG h
  have hm0 : (mT M).1 0 0 = nI 0 := hR.1.1.1
  have hmrc : M.1 0 1 = nI rc := (mT_0 M (by omega)).symm.trans hR.1.1.2.2.1
  have hmnc : M.1 0 3 = nI nc := (mT_0 M (by omega)).symm.trans hR.1.1.2.2.2.2.1
  refine lv_aload_n hx hb dL_law_1323 rfl (lv_at hl 2 rfl) ?_
  refine lw_s hx hb hX hbl hS (k := 1) (by omega) hL (by decide) (lv_at hl 1 rfl) (lv_at hl 0 rfl) dL_law_1324 dL_law_1325 dL_law_1327 dL_law_1328 dL_law_1329 ?_
  refine lw_s hx hb hX hbl hS (k := 2) (by omega) hL (by decide) (lv_at hl 1 rfl) (lv_at hl 0 rfl) dL_law_1330 dL_law_1331 dL_law_1333 dL_law_1334 dL_law_1335 ?_
  refine lv_aload_n hx hb dL_law_1336 rfl (lv_at hl 4 rfl) ?_
  refine lw_C hG h hS (vx_runSW (As := [.ref (gA G 139), .int (xs (i + 1)), .int (xs (i + 2)), .ref o]) (rest := []) hF (k_L_heads l hlt G S H.size o f ho hR.1.1.2.1 hR.1.1.2.2.2.2.2.2.1 (xs (i + 1)) (xs (i + 2))) (vx_cwSW 4 hF.2.2.2.2 lL_law_L_heads rfl rfl rfl (by decide +kernel) ⟨Nat.le_of_ble_eq_true rfl, Nat.le_of_ble_eq_true rfl⟩) ⟨hP_blind, lw_pC h⟩ rfl rfl hl.1 rfl (lv_room (Nat.le_of_ble_eq_true rfl)) dL_law_1337 ⟨Nat.le_trans (by omega) (show 600000 ≤ room_1.cells by decide), Nat.le_trans (by omega) (show 7300000 ≤ room_1.slots by decide)⟩) (fun r u H locs hu h hS => ?_)
  obtain ⟨rfl, hu, hv⟩ := hu
  obtain ⟨S1, f1⟩ := u
  dsimp only at hu h hv
  have hu := hu.symm
  subst hu
  refine W.widen (k := cells + 12) (n := slots + 72) (by omega) (by omega) ?_
  refine lv_istore (lv' := [(5, .int (nI (cdHeads (xs (i + 1)) (xs (i + 2))))), (4, .int (nI i)), (0, .ref b), (1, .ref (gA G 139)), (2, .ref (gA G' 0)), (3, .ref o)]) hx hb dL_law_1340 hl (by decide) rfl (fun ls hl => ?_)
  refine lv_aload_n hx hb dL_law_1342 rfl (lv_at hl 4 rfl) ?_
  refine lw_s hx hb hX hbl hS (k := 1) (by omega) hL (by decide) (lv_at hl 2 rfl) (lv_at hl 1 rfl) dL_law_1343 dL_law_1344 dL_law_1346 dL_law_1347 dL_law_1348 ?_
  refine lw_s hx hb hX hbl hS (k := 2) (by omega) hL (by decide) (lv_at hl 2 rfl) (lv_at hl 1 rfl) dL_law_1349 dL_law_1350 dL_law_1352 dL_law_1353 dL_law_1354 ?_
  refine lw_Ml hG h hS (va_runV (As := [.int (xs (i + 1)), .int (xs (i + 2))]) (rest := []) hF (k_X3_heads l G' M H.size  (xs (i + 1)) (xs (i + 2))) (cwV 2 hF.2.2.2.2 lL_law_X3_heads rfl rfl rfl (by decide +kernel) ⟨Nat.le_of_ble_eq_true rfl, Nat.le_of_ble_eq_true rfl⟩) ⟨mQ_blind, lw_rM h, lw_pM h⟩ rfl rfl hl.1 rfl (lv_room (Nat.le_of_ble_eq_true rfl)) dL_law_1355 ⟨Nat.le_trans (by omega) (show 600000 ≤ room_1.cells by decide), Nat.le_trans (by omega) (show 7300000 ≤ room_1.slots by decide)⟩) (fun r u H locs hm h hS => ?_)
  obtain ⟨hr9, rfl⟩ := hm
  obtain ⟨ht0, rc1, nc1, hR1⟩ := st_ok (c := cdHeads (xs (i + 1)) (xs (i + 2))) (mc := cdHeads (xs (i + 1)) (xs (i + 2))) (C' := S) (D := mT M) hR hm0 (rfl) (fun h9 => ⟨_, _, hR⟩)
  rw [ite_self] at hR1
  refine lv_lstore (lv' := [(6, .long r), (5, .int (nI (cdHeads (xs (i + 1)) (xs (i + 2))))), (4, .int (nI i)), (0, .ref b), (1, .ref (gA G 139)), (2, .ref (gA G' 0)), (3, .ref o)]) hx hb dL_law_1358 hl (by decide) rfl (fun ls hl => ?_)
  refine lv_aload_n hx hb dL_law_1360 rfl (lv_at hl 5 rfl) ?_
  refine pv_i (va_runV (As := []) (rest := []) hF (k_X3_thrown l G' _) (cwV 0 hF.2.2.2.2 lL_law_X3_thrown rfl rfl rfl (by decide +kernel) ⟨Nat.le_of_ble_eq_true rfl, Nat.le_of_ble_eq_true rfl⟩) ⟨mP_blind, lw_rM h, lw_pT h⟩ rfl rfl hl.1 rfl (lv_room (Nat.le_of_ble_eq_true rfl)) dL_law_1361 ⟨Nat.le_trans (by omega) (show 600000 ≤ room_1.cells by decide), Nat.le_trans (by omega) (show 7300000 ≤ room_1.slots by decide)⟩) (fun r9 ht => ?_)
  subst ht
  rw [ht0]
  refine lv_iload hx hb dL_law_1364 (lv_at hl 1 rfl) ?_
  refine lv_icmp_eq (tgt := 1371) hx hb dL_law_1366 (by decide) (fun _ => ?_) (fun h9 => absurd (congrArg nI (rfl).symm) h9)
  refine lv_iload hx hb dL_law_1371 (lv_at hl 1 rfl) ?_
  refine lv_if_ne (tgt := 1387) hx hb dL_law_1373 (by decide) (fun _ => ?_) (fun ha => ?_)
  · refine lv_goto (tgt := 1501) hx hb dL_law_1387 (by decide) ?_
    exact kk H locs _ _ _ rc1 nc1 ls h hS hR1 (lv_sub hl [2, 3, 4, 5, 6] rfl)
  · have ha : cdHeads (xs (i + 1)) (xs (i + 2)) = 0 := nI_z ha (cd_lt (by unfold cdHeads; (repeat' split) <;> omega))
    have hv := hv ha
    have hr9 := hr9 ((rfl).symm.trans ha)
    refine lv_aload_n hx hb dL_law_1376 rfl (lv_at hl 6 rfl) ?_
    refine lv_iconst (v := nI 0) hx hb dL_law_1377 (by decide) ?_
    refine nv_lald hx hb h.2.2.2.1.1 h.2.2.1 0 1 rfl rfl (i := 0) (by decide) (by decide) dL_law_1378 ?_
    refine lv_lload hx hb dL_law_1379 (lv_at hl 0 rfl) ?_
    refine W.lcmp hx hb dL_law_1381 ?_
    refine cv_if_eq (tgt := 1387) hx hb dL_law_1382 (by decide) (fun _ => ?_) (fun h9 => absurd (hv.trans (((a_heads hR ha)).trans hr9.symm)) h9)
    refine lv_goto (tgt := 1501) hx hb dL_law_1387 (by decide) ?_
    exact kk H locs _ _ _ rc1 nc1 ls h hS hR1 (lv_sub hl [2, 3, 4, 5, 6] rfl)
set_option maxRecDepth 100000 in
set_option maxHeartbeats 4000000 in
theorem lc_exchange {p : Program} {l : Launch} {e : Env} {s : State} {m : MethodId} {below : List Frame} {meth : Method} {c : Code} (hlt : l.stackTraces = false) {b L : Nat} {xs : Nat → Int32} (hF : CallFix p m c cL_law 8 s #[Value.ref b] lw_tbl RL) (hX : va_X b L xs s s.heap) (hbl : b < s.heap.size) (hL : L ≤ 320) {G G' : GT} {o : Nat} (hG : LG s G G' o)
    {i : Nat} (hi : i + 5 ≤ L) {H : Heap} {locs : List Loc} {S M : SS} {f : Nat → Int64} (h : LH s G G' o H S M f) (hS : va_S (LAp s) s.heap H locs) {rc nc : Nat} (hR : RR S (mT M) rc nc) {cells slots : Nat} (hc : cells + 12 ≤ 600000 ∧ slots + 72 ≤ 7300000) {ls : Array Slot} (hl : lv_has ls 8 [(4, .int (nI i)), (0, .ref b), (1, .ref (gA G 139)), (2, .ref (gA G' 0)), (3, .ref o)]) {Q : State → Prop}
    (kk : ∀ (H1 : Heap) (locs1 : List Loc) (S1 M1 : SS) (f1 : Nat → Int64) (rc1 nc1 : Nat) (ls1 : Array Slot), LH s G G' o H1 S1 M1 f1 → va_S (LAp s) s.heap H1 locs1 → RR S1 (mT M1) rc1 nc1 → lv_has ls1 8 [(4, .int (nI i)), (0, .ref b), (1, .ref (gA G 139)), (2, .ref (gA G' 0)), (3, .ref o)] → W p l e room_1 s m #[Value.ref b] below meth c H1 locs1 (cells + 12) (slots + 72) Q (F0 m 1501 ls1 [])) :
    W p l e room_1 s m #[Value.ref b] below meth c H locs cells slots Q (F0 m 1390 ls []) := by
  have hx := hF.1
  have hb := hF.2.1
  have ho := LG_o hG h
  have hm0 : (mT M).1 0 0 = nI 0 := hR.1.1.1
  have hmrc : M.1 0 1 = nI rc := (mT_0 M (by omega)).symm.trans hR.1.1.2.2.1
  have hmnc : M.1 0 3 = nI nc := (mT_0 M (by omega)).symm.trans hR.1.1.2.2.2.2.1
  refine lv_aload_n hx hb dL_law_1390 rfl (lv_at hl 2 rfl) ?_
  refine lw_s hx hb hX hbl hS (k := 1) (by omega) hL (by decide) (lv_at hl 1 rfl) (lv_at hl 0 rfl) dL_law_1391 dL_law_1392 dL_law_1394 dL_law_1395 dL_law_1396 ?_
  refine lv_aload_n hx hb dL_law_1397 rfl (lv_at hl 4 rfl) ?_
  refine lw_C hG h hS (vx_runSW (As := [.ref (gA G 139), .int (xs (i + 1)), .ref o]) (rest := []) hF (k_L_exchange l hlt G S H.size o f ho hR.1.1.2.1 hR.1.1.2.2.2.2.2.2.1 (xs (i + 1))) (vx_cwSW 3 hF.2.2.2.2 lL_law_L_exchange rfl rfl rfl (by decide +kernel) ⟨Nat.le_of_ble_eq_true rfl, Nat.le_of_ble_eq_true rfl⟩) ⟨hP_blind, lw_pC h⟩ rfl rfl hl.1 rfl (lv_room (Nat.le_of_ble_eq_true rfl)) dL_law_1398 ⟨Nat.le_trans (by omega) (show 600000 ≤ room_1.cells by decide), Nat.le_trans (by omega) (show 7300000 ≤ room_1.slots by decide)⟩) (fun r u H locs hu h hS => ?_)
  obtain ⟨rfl, hu, hv⟩ := hu
  obtain ⟨S1, f1⟩ := u
  dsimp only at hu h hv
  subst hu
  refine W.widen (k := cells + 12) (n := slots + 72) (by omega) (by omega) ?_
  refine lv_istore (lv' := [(5, .int (nI (cdExch (xs (i + 1))))), (4, .int (nI i)), (0, .ref b), (1, .ref (gA G 139)), (2, .ref (gA G' 0)), (3, .ref o)]) hx hb dL_law_1401 hl (by decide) rfl (fun ls hl => ?_)
  refine lv_aload_n hx hb dL_law_1403 rfl (lv_at hl 4 rfl) ?_
  refine lw_s hx hb hX hbl hS (k := 1) (by omega) hL (by decide) (lv_at hl 2 rfl) (lv_at hl 1 rfl) dL_law_1404 dL_law_1405 dL_law_1407 dL_law_1408 dL_law_1409 ?_
  refine lw_Mi hG h hS (va_runV (As := [.int (xs (i + 1))]) (rest := []) hF (k_X3_exchange l G' M H.size  (xs (i + 1))) (cwV 1 hF.2.2.2.2 lL_law_X3_exchange rfl rfl rfl (by decide +kernel) ⟨Nat.le_of_ble_eq_true rfl, Nat.le_of_ble_eq_true rfl⟩) ⟨mQ_blind, lw_rM h, lw_pM h⟩ rfl rfl hl.1 rfl (lv_room (Nat.le_of_ble_eq_true rfl)) dL_law_1410 ⟨Nat.le_trans (by omega) (show 600000 ≤ room_1.cells by decide), Nat.le_trans (by omega) (show 7300000 ≤ room_1.slots by decide)⟩) (fun r u H locs hm h hS => ?_)
  obtain ⟨hr9, rfl⟩ := hm
  obtain ⟨ht0, rc1, nc1, hR1⟩ := st_ok (c := cdExch (xs (i + 1))) (mc := mcExch (xs (i + 1))) hR hm0 (rfl) (fun h9 => ⟨_, _, (x_exch hR (inB_cn (by omega) (ite_ne0 (by omega) h9).1).1).2⟩)
  refine lv_istore (lv' := [(6, .int r), (5, .int (nI (cdExch (xs (i + 1))))), (4, .int (nI i)), (0, .ref b), (1, .ref (gA G 139)), (2, .ref (gA G' 0)), (3, .ref o)]) hx hb dL_law_1413 hl (by decide) rfl (fun ls hl => ?_)
  refine lv_aload_n hx hb dL_law_1415 rfl (lv_at hl 5 rfl) ?_
  refine pv_i (va_runV (As := []) (rest := []) hF (k_X3_thrown l G' _) (cwV 0 hF.2.2.2.2 lL_law_X3_thrown rfl rfl rfl (by decide +kernel) ⟨Nat.le_of_ble_eq_true rfl, Nat.le_of_ble_eq_true rfl⟩) ⟨mP_blind, lw_rM h, lw_pT h⟩ rfl rfl hl.1 rfl (lv_room (Nat.le_of_ble_eq_true rfl)) dL_law_1416 ⟨Nat.le_trans (by omega) (show 600000 ≤ room_1.cells by decide), Nat.le_trans (by omega) (show 7300000 ≤ room_1.slots by decide)⟩) (fun r9 ht => ?_)
  subst ht
  rw [ht0]
  refine lv_iload hx hb dL_law_1419 (lv_at hl 1 rfl) ?_
  refine lv_icmp_eq (tgt := 1426) hx hb dL_law_1421 (by decide) (fun _ => ?_) (fun h9 => absurd (congrArg nI (rfl).symm) h9)
  refine lv_iload hx hb dL_law_1426 (lv_at hl 1 rfl) ?_
  refine lv_if_ne (tgt := 1443) hx hb dL_law_1428 (by decide) (fun _ => ?_) (fun ha => ?_)
  · refine lv_goto (tgt := 1501) hx hb dL_law_1443 (by decide) ?_
    exact kk H locs _ _ _ rc1 nc1 ls h hS hR1 (lv_sub hl [2, 3, 4, 5, 6] rfl)
  · have ha : cdExch (xs (i + 1)) = 0 := nI_z ha (cd_lt (by unfold cdExch; (repeat' split) <;> omega))
    have hv := hv ha
    have hr9 := hr9 ((rfl).symm.trans ha)
    refine lv_aload_n hx hb dL_law_1431 rfl (lv_at hl 6 rfl) ?_
    refine lv_iconst (v := nI 0) hx hb dL_law_1432 (by decide) ?_
    refine nv_lald hx hb h.2.2.2.1.1 h.2.2.1 0 1 rfl rfl (i := 0) (by decide) (by decide) dL_law_1433 ?_
    refine lv_iload hx hb dL_law_1434 (lv_at hl 0 rfl) ?_
    refine lv_i2l (v := r.toInt64) hx hb dL_law_1436 rfl ?_
    refine W.lcmp hx hb dL_law_1437 ?_
    refine cv_if_eq (tgt := 1443) hx hb dL_law_1438 (by decide) (fun _ => ?_) (fun h9 => absurd (hv.trans ((congrArg Int32.toInt64 ((x_exch hR (inB_cn (by omega) (ite_ne0 (by omega) ha).1).1).1)).trans (congrArg Int32.toInt64 hr9.symm))) h9)
    refine lv_goto (tgt := 1501) hx hb dL_law_1443 (by decide) ?_
    exact kk H locs _ _ _ rc1 nc1 ls h hS hR1 (lv_sub hl [2, 3, 4, 5, 6] rfl)
set_option maxRecDepth 100000 in
set_option maxHeartbeats 4000000 in
theorem lc_has {p : Program} {l : Launch} {e : Env} {s : State} {m : MethodId} {below : List Frame} {meth : Method} {c : Code} (hlt : l.stackTraces = false) {b L : Nat} {xs : Nat → Int32} (hF : CallFix p m c cL_law 8 s #[Value.ref b] lw_tbl RL) (hX : va_X b L xs s s.heap) (hbl : b < s.heap.size) (hL : L ≤ 320) {G G' : GT} {o : Nat} (hG : LG s G G' o)
    {i : Nat} (hi : i + 5 ≤ L) {H : Heap} {locs : List Loc} {S M : SS} {f : Nat → Int64} (h : LH s G G' o H S M f) (hS : va_S (LAp s) s.heap H locs) {rc nc : Nat} (hR : RR S (mT M) rc nc) {cells slots : Nat} (hc : cells + 12 ≤ 600000 ∧ slots + 72 ≤ 7300000) {ls : Array Slot} (hl : lv_has ls 8 [(4, .int (nI i)), (0, .ref b), (1, .ref (gA G 139)), (2, .ref (gA G' 0)), (3, .ref o)]) {Q : State → Prop}
    (kk : ∀ (H1 : Heap) (locs1 : List Loc) (S1 M1 : SS) (f1 : Nat → Int64) (rc1 nc1 : Nat) (ls1 : Array Slot), LH s G G' o H1 S1 M1 f1 → va_S (LAp s) s.heap H1 locs1 → RR S1 (mT M1) rc1 nc1 → lv_has ls1 8 [(4, .int (nI i)), (0, .ref b), (1, .ref (gA G 139)), (2, .ref (gA G' 0)), (3, .ref o)] → W p l e room_1 s m #[Value.ref b] below meth c H1 locs1 (cells + 12) (slots + 72) Q (F0 m 1501 ls1 [])) :
    W p l e room_1 s m #[Value.ref b] below meth c H locs cells slots Q (F0 m 1446 ls []) := by
  have hx := hF.1
  have hb := hF.2.1
  have ho := LG_o hG h
  have hm0 : (mT M).1 0 0 = nI 0 := hR.1.1.1
  have hmrc : M.1 0 1 = nI rc := (mT_0 M (by omega)).symm.trans hR.1.1.2.2.1
  have hmnc : M.1 0 3 = nI nc := (mT_0 M (by omega)).symm.trans hR.1.1.2.2.2.2.1
  refine lv_aload_n hx hb dL_law_1446 rfl (lv_at hl 2 rfl) ?_
  refine lw_s hx hb hX hbl hS (k := 1) (by omega) hL (by decide) (lv_at hl 1 rfl) (lv_at hl 0 rfl) dL_law_1447 dL_law_1448 dL_law_1450 dL_law_1451 dL_law_1452 ?_
  refine lv_aload_n hx hb dL_law_1453 rfl (lv_at hl 4 rfl) ?_
  refine lw_C hG h hS (vx_runSW (As := [.ref (gA G 139), .int (xs (i + 1)), .ref o]) (rest := []) hF (k_L_has l hlt G S H.size o f ho  (xs (i + 1))) (vx_cwSW 3 hF.2.2.2.2 lL_law_L_has rfl rfl rfl (by decide +kernel) ⟨Nat.le_of_ble_eq_true rfl, Nat.le_of_ble_eq_true rfl⟩) ⟨hP_blind, lw_pC h⟩ rfl rfl hl.1 rfl (lv_room (Nat.le_of_ble_eq_true rfl)) dL_law_1454 ⟨Nat.le_trans (by omega) (show 600000 ≤ room_1.cells by decide), Nat.le_trans (by omega) (show 7300000 ≤ room_1.slots by decide)⟩) (fun r u H locs hu h hS => ?_)
  obtain ⟨rfl, hu, hv⟩ := hu
  obtain ⟨S1, f1⟩ := u
  dsimp only at hu h hv
  have hu := hu.symm
  subst hu
  refine W.widen (k := cells + 12) (n := slots + 72) (by omega) (by omega) ?_
  refine lv_istore (lv' := [(5, .int (nI (cdHas (xs (i + 1))))), (4, .int (nI i)), (0, .ref b), (1, .ref (gA G 139)), (2, .ref (gA G' 0)), (3, .ref o)]) hx hb dL_law_1457 hl (by decide) rfl (fun ls hl => ?_)
  refine lv_aload_n hx hb dL_law_1459 rfl (lv_at hl 4 rfl) ?_
  refine lw_s hx hb hX hbl hS (k := 1) (by omega) hL (by decide) (lv_at hl 2 rfl) (lv_at hl 1 rfl) dL_law_1460 dL_law_1461 dL_law_1463 dL_law_1464 dL_law_1465 ?_
  refine lw_Ml hG h hS (va_runV (As := [.int (xs (i + 1))]) (rest := []) hF (k_X3_has l G' M H.size  (xs (i + 1))) (cwV 1 hF.2.2.2.2 lL_law_X3_has rfl rfl rfl (by decide +kernel) ⟨Nat.le_of_ble_eq_true rfl, Nat.le_of_ble_eq_true rfl⟩) ⟨mQ_blind, lw_rM h, lw_pM h⟩ rfl rfl hl.1 rfl (lv_room (Nat.le_of_ble_eq_true rfl)) dL_law_1466 ⟨Nat.le_trans (by omega) (show 600000 ≤ room_1.cells by decide), Nat.le_trans (by omega) (show 7300000 ≤ room_1.slots by decide)⟩) (fun r u H locs hm h hS => ?_)
  obtain ⟨hr9, rfl⟩ := hm
  obtain ⟨ht0, rc1, nc1, hR1⟩ := st_ok (c := cdHas (xs (i + 1))) (mc := cdHas (xs (i + 1))) (C' := S) (D := mT M) hR hm0 (rfl) (fun h9 => ⟨_, _, hR⟩)
  rw [ite_self] at hR1
  refine lv_lstore (lv' := [(6, .long r), (5, .int (nI (cdHas (xs (i + 1))))), (4, .int (nI i)), (0, .ref b), (1, .ref (gA G 139)), (2, .ref (gA G' 0)), (3, .ref o)]) hx hb dL_law_1469 hl (by decide) rfl (fun ls hl => ?_)
  refine lv_aload_n hx hb dL_law_1471 rfl (lv_at hl 5 rfl) ?_
  refine pv_i (va_runV (As := []) (rest := []) hF (k_X3_thrown l G' _) (cwV 0 hF.2.2.2.2 lL_law_X3_thrown rfl rfl rfl (by decide +kernel) ⟨Nat.le_of_ble_eq_true rfl, Nat.le_of_ble_eq_true rfl⟩) ⟨mP_blind, lw_rM h, lw_pT h⟩ rfl rfl hl.1 rfl (lv_room (Nat.le_of_ble_eq_true rfl)) dL_law_1472 ⟨Nat.le_trans (by omega) (show 600000 ≤ room_1.cells by decide), Nat.le_trans (by omega) (show 7300000 ≤ room_1.slots by decide)⟩) (fun r9 ht => ?_)
  subst ht
  rw [ht0]
  refine lv_iload hx hb dL_law_1475 (lv_at hl 1 rfl) ?_
  refine lv_icmp_eq (tgt := 1482) hx hb dL_law_1477 (by decide) (fun _ => ?_) (fun h9 => absurd (congrArg nI (rfl).symm) h9)
  refine lv_iload hx hb dL_law_1482 (lv_at hl 1 rfl) ?_
  refine lv_if_ne (tgt := 1498) hx hb dL_law_1484 (by decide) (fun _ => ?_) (fun ha => ?_)
  · refine lv_goto (tgt := 1501) hx hb dL_law_1498 (by decide) ?_
    exact kk H locs _ _ _ rc1 nc1 ls h hS hR1 (lv_sub hl [2, 3, 4, 5, 6] rfl)
  · have ha : cdHas (xs (i + 1)) = 0 := nI_z ha (cd_lt (by unfold cdHas; (repeat' split) <;> omega))
    have hv := hv ha
    have hr9 := hr9 ((rfl).symm.trans ha)
    refine lv_aload_n hx hb dL_law_1487 rfl (lv_at hl 6 rfl) ?_
    refine lv_iconst (v := nI 0) hx hb dL_law_1488 (by decide) ?_
    refine nv_lald hx hb h.2.2.2.1.1 h.2.2.1 0 1 rfl rfl (i := 0) (by decide) (by decide) dL_law_1489 ?_
    refine lv_lload hx hb dL_law_1490 (lv_at hl 0 rfl) ?_
    refine W.lcmp hx hb dL_law_1492 ?_
    refine cv_if_eq (tgt := 1498) hx hb dL_law_1493 (by decide) (fun _ => ?_) (fun h9 => absurd (hv.trans (((a_has hR ha)).trans hr9.symm)) h9)
    refine lv_goto (tgt := 1501) hx hb dL_law_1498 (by decide) ?_
    exact kk H locs _ _ _ rc1 nc1 ls h hS hR1 (lv_sub hl [2, 3, 4, 5, 6] rfl)
