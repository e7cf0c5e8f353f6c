/-! THE LAW'S CASES -/
theorem l2_0 {c : Nat} : l2 c = 0 ↔ c = 0 := by
  unfold l2
  split
  · omega
  · exact Iff.rfl
theorem cd_lt {c : Nat} (h : c < 4) : c < 2 ^ 31 := by omega
theorem nI_z {c : Nat} (h : nI c = 0) (hc : c < 2 ^ 31) : c = 0 := (nI_eq hc (by decide)).mp h
section LWZ
variable {p : Program} {l : Launch} {e : Env} {R : Room} {s : State} {m : MethodId} {args : Array Value} {below : List Frame} {meth : Method} {c : Code} {H : Heap} {locs : List Loc} {cells slots : Nat} {Q : State → Prop} {pc : Nat} {ls : Array Slot} {rest : List Value}
/-- b ? 1L : 0L -/
theorem lw_z {cc : ByteArray} (hx : p.tables.exec = Jvm.exec) (hb : c.code = cc) {x : Int32} (d0 : decode cc pc = .ok (.ifCond .eq 7, 3)) (d3 : decode cc (pc + 3) = .ok (.lconst 1, 1)) (d4 : decode cc (pc + 4) = .ok (.goto 4, 3)) (d7 : decode cc (pc + 7) = .ok (.lconst 0, 1))
    (kk : W p l e R s m args below meth c H locs cells slots Q (F0 m (pc + 8) ls (.long (if x = 0 then 0 else 1) :: rest))) : W p l e R s m args below meth c H locs cells slots Q (F0 m pc ls (.int x :: rest)) := by
  refine lv_if_eq (tgt := pc + 7) hx hb d0 (by omega) (fun h => ?_) (fun h => ?_)
  · refine lv_lconst (v := 0) hx hb d7 (by decide) ?_
    rw [if_pos h] at kk
    exact kk
  · refine lv_lconst (v := 1) hx hb d3 (by decide) ?_
    refine lv_goto (tgt := pc + 8) hx hb d4 (by omega) ?_
    rw [if_neg h] at kk
    exact kk
end LWZ
theorem lz_eq {a b : Bool} {r : Int32} (e : a = b) (hr : r = bI b) : (if a = true then (1 : Int64) else 0) = if r = 0 then 0 else 1 := by
  subst e hr
  cases a <;> decide
set_option maxRecDepth 100000 in
set_option maxHeartbeats 4000000 in
theorem lc_open {p : Program} {l : Launch} {e : Env} {s : State} {m : MethodId} {below : List Frame} {meth : Method} {c : Code} (hlt : l.stackTraces = false) {b L : Nat} {xs : Nat → Int32} (hF : CallFix p m c cL_law 8 s #[Value.ref b] lw_tbl RL) (hX : va_X b L xs s s.heap) (hbl : b < s.heap.size) (hL : L ≤ 320) {G G' : GT} {o : Nat} (hG : LG s G G' o)
    {i : Nat} (hi : i + 5 ≤ L) {H : Heap} {locs : List Loc} {S M : SS} {f : Nat → Int64} (h : LH s G G' o H S M f) (hS : va_S (LAp s) s.heap H locs) {rc nc : Nat} (hR : RR S (mT M) rc nc) {cells slots : Nat} (hc : cells + 12 ≤ 600000 ∧ slots + 72 ≤ 7300000) {ls : Array Slot} (hl : lv_has ls 8 [(4, .int (nI i)), (0, .ref b), (1, .ref (gA G 139)), (2, .ref (gA G' 0)), (3, .ref o)]) {Q : State → Prop}
    (kk : ∀ (H1 : Heap) (locs1 : List Loc) (S1 M1 : SS) (f1 : Nat → Int64) (rc1 nc1 : Nat) (ls1 : Array Slot), LH s G G' o H1 S1 M1 f1 → va_S (LAp s) s.heap H1 locs1 → RR S1 (mT M1) rc1 nc1 → lv_has ls1 8 [(4, .int (nI i)), (0, .ref b), (1, .ref (gA G 139)), (2, .ref (gA G' 0)), (3, .ref o)] → W p l e room_1 s m #[Value.ref b] below meth c H1 locs1 (cells + 12) (slots + 72) Q (F0 m 1501 ls1 [])) :
    W p l e room_1 s m #[Value.ref b] below meth c H locs cells slots Q (F0 m 128 ls []) := by
  have hx := hF.1
  have hb := hF.2.1
  have ho := LG_o hG h
  have hm0 : (mT M).1 0 0 = nI 0 := hR.1.1.1
  have hmrc : M.1 0 1 = nI rc := (mT_0 M (by omega)).symm.trans hR.1.1.2.2.1
  have hmnc : M.1 0 3 = nI nc := (mT_0 M (by omega)).symm.trans hR.1.1.2.2.2.2.1
  refine lv_aload_n hx hb dL_law_128 rfl (lv_at hl 2 rfl) ?_
  refine lw_s hx hb hX hbl hS (k := 1) (by omega) hL (by decide) (lv_at hl 1 rfl) (lv_at hl 0 rfl) dL_law_129 dL_law_130 dL_law_132 dL_law_133 dL_law_134 ?_
  refine lw_s hx hb hX hbl hS (k := 2) (by omega) hL (by decide) (lv_at hl 1 rfl) (lv_at hl 0 rfl) dL_law_135 dL_law_136 dL_law_138 dL_law_139 dL_law_140 ?_
  refine lw_C hG h hS (vx_runSW (As := [.ref (gA G 139), .int (xs (i + 1)), .int (xs (i + 2))]) (rest := []) hF (k_L_open l hlt G S H.size o f ho hR.1.1.2.1 hR.1.1.2.2.2.2.2.2.1 (xs (i + 1)) (xs (i + 2))) (vx_cwSW 3 hF.2.2.2.2 lL_law_L_open rfl rfl rfl (by decide +kernel) ⟨Nat.le_of_ble_eq_true rfl, Nat.le_of_ble_eq_true rfl⟩) ⟨hP_blind, lw_pC h⟩ rfl rfl hl.1 rfl (lv_room (Nat.le_of_ble_eq_true rfl)) dL_law_141 ⟨Nat.le_trans (by omega) (show 600000 ≤ room_1.cells by decide), Nat.le_trans (by omega) (show 7300000 ≤ room_1.slots by decide)⟩) (fun r u H locs hu h hS => ?_)
  obtain ⟨rfl, hu⟩ := hu
  obtain ⟨S1, f1⟩ := u
  dsimp only at hu h
  subst hu
  refine W.widen (k := cells + 12) (n := slots + 72) (by omega) (by omega) ?_
  refine lv_istore (lv' := [(5, .int (nI (cdOpen S rc (xs (i + 1)) (xs (i + 2))))), (4, .int (nI i)), (0, .ref b), (1, .ref (gA G 139)), (2, .ref (gA G' 0)), (3, .ref o)]) hx hb dL_law_144 hl (by decide) rfl (fun ls hl => ?_)
  refine lv_aload_n hx hb dL_law_146 rfl (lv_at hl 4 rfl) ?_
  refine lw_s hx hb hX hbl hS (k := 1) (by omega) hL (by decide) (lv_at hl 2 rfl) (lv_at hl 1 rfl) dL_law_147 dL_law_148 dL_law_150 dL_law_151 dL_law_152 ?_
  refine lw_s hx hb hX hbl hS (k := 2) (by omega) hL (by decide) (lv_at hl 2 rfl) (lv_at hl 1 rfl) dL_law_153 dL_law_154 dL_law_156 dL_law_157 dL_law_158 ?_
  refine lw_Mv hG h hS (va_runV (As := [.int (xs (i + 1)), .int (xs (i + 2))]) (rest := []) hF (k_X3_open l G' M H.size hmrc hR.1.1.2.2.2.2.2.1 hR.1.1.2.2.2.2.2.2.1 (xs (i + 1)) (xs (i + 2))) (cwV 2 hF.2.2.2.2 lL_law_X3_open rfl rfl rfl (by decide +kernel) ⟨Nat.le_of_ble_eq_true rfl, Nat.le_of_ble_eq_true rfl⟩) ⟨mQ_blind, lw_rM h, lw_pM h⟩ rfl rfl hl.1 rfl (lv_room (Nat.le_of_ble_eq_true rfl)) dL_law_159 ⟨Nat.le_trans (by omega) (show 600000 ≤ room_1.cells by decide), Nat.le_trans (by omega) (show 7300000 ≤ room_1.slots by decide)⟩) (fun u H locs hm h hS => ?_)
  subst hm
  obtain ⟨ht0, rc1, nc1, hR1⟩ := st_ok (c := cdOpen S rc (xs (i + 1)) (xs (i + 2))) (mc := mcOpen (mT M) rc (xs (i + 1)) (xs (i + 2))) hR hm0 (e_open hR _ _) (fun h9 => ⟨_, _, p_open hR h9⟩)
  refine lv_aload_n hx hb dL_law_162 rfl (lv_at hl 4 rfl) ?_
  refine pv_i (va_runV (As := []) (rest := []) hF (k_X3_thrown l G' _) (cwV 0 hF.2.2.2.2 lL_law_X3_thrown rfl rfl rfl (by decide +kernel) ⟨Nat.le_of_ble_eq_true rfl, Nat.le_of_ble_eq_true rfl⟩) ⟨mP_blind, lw_rM h, lw_pT h⟩ rfl rfl hl.1 rfl (lv_room (Nat.le_of_ble_eq_true rfl)) dL_law_163 ⟨Nat.le_trans (by omega) (show 600000 ≤ room_1.cells by decide), Nat.le_trans (by omega) (show 7300000 ≤ room_1.slots by decide)⟩) (fun r9 ht => ?_)
  subst ht
  rw [ht0]
  refine lv_iload hx hb dL_law_166 (lv_at hl 0 rfl) ?_
  refine lv_icmp_eq (tgt := 173) hx hb dL_law_168 (by decide) (fun _ => ?_) (fun h9 => absurd (congrArg nI (e_open hR _ _).symm) h9)
  refine lv_goto (tgt := 1501) hx hb dL_law_173 (by decide) ?_
  exact kk H locs _ _ _ rc1 nc1 ls h hS hR1 (lv_sub hl [1, 2, 3, 4, 5] rfl)
set_option maxRecDepth 100000 in
set_option maxHeartbeats 4000000 in
theorem lc_add {p : Program} {l : Launch} {e : Env} {s : State} {m : MethodId} {below : List Frame} {meth : Method} {c : Code} (hlt : l.stackTraces = false) {b L : Nat} {xs : Nat → Int32} (hF : CallFix p m c cL_law 8 s #[Value.ref b] lw_tbl RL) (hX : va_X b L xs s s.heap) (hbl : b < s.heap.size) (hL : L ≤ 320) {G G' : GT} {o : Nat} (hG : LG s G G' o)
    {i : Nat} (hi : i + 5 ≤ L) {H : Heap} {locs : List Loc} {S M : SS} {f : Nat → Int64} (h : LH s G G' o H S M f) (hS : va_S (LAp s) s.heap H locs) {rc nc : Nat} (hR : RR S (mT M) rc nc) {cells slots : Nat} (hc : cells + 12 ≤ 600000 ∧ slots + 72 ≤ 7300000) {ls : Array Slot} (hl : lv_has ls 8 [(4, .int (nI i)), (0, .ref b), (1, .ref (gA G 139)), (2, .ref (gA G' 0)), (3, .ref o)]) {Q : State → Prop}
    (kk : ∀ (H1 : Heap) (locs1 : List Loc) (S1 M1 : SS) (f1 : Nat → Int64) (rc1 nc1 : Nat) (ls1 : Array Slot), LH s G G' o H1 S1 M1 f1 → va_S (LAp s) s.heap H1 locs1 → RR S1 (mT M1) rc1 nc1 → lv_has ls1 8 [(4, .int (nI i)), (0, .ref b), (1, .ref (gA G 139)), (2, .ref (gA G' 0)), (3, .ref o)] → W p l e room_1 s m #[Value.ref b] below meth c H1 locs1 (cells + 12) (slots + 72) Q (F0 m 1501 ls1 [])) :
    W p l e room_1 s m #[Value.ref b] below meth c H locs cells slots Q (F0 m 176 ls []) := by
  have hx := hF.1
  have hb := hF.2.1
  have ho := LG_o hG h
  have hm0 : (mT M).1 0 0 = nI 0 := hR.1.1.1
  have hmrc : M.1 0 1 = nI rc := (mT_0 M (by omega)).symm.trans hR.1.1.2.2.1
  have hmnc : M.1 0 3 = nI nc := (mT_0 M (by omega)).symm.trans hR.1.1.2.2.2.2.1
  refine lv_aload_n hx hb dL_law_176 rfl (lv_at hl 2 rfl) ?_
  refine lw_s hx hb hX hbl hS (k := 1) (by omega) hL (by decide) (lv_at hl 1 rfl) (lv_at hl 0 rfl) dL_law_177 dL_law_178 dL_law_180 dL_law_181 dL_law_182 ?_
  refine lw_s hx hb hX hbl hS (k := 2) (by omega) hL (by decide) (lv_at hl 1 rfl) (lv_at hl 0 rfl) dL_law_183 dL_law_184 dL_law_186 dL_law_187 dL_law_188 ?_
  refine lw_s hx hb hX hbl hS (k := 3) (by omega) hL (by decide) (lv_at hl 1 rfl) (lv_at hl 0 rfl) dL_law_189 dL_law_190 dL_law_192 dL_law_193 dL_law_194 ?_
  refine lw_s hx hb hX hbl hS (k := 4) (by omega) hL (by decide) (lv_at hl 1 rfl) (lv_at hl 0 rfl) dL_law_195 dL_law_196 dL_law_198 dL_law_199 dL_law_200 ?_
  refine lw_b hx hb dL_law_201 dL_law_204 dL_law_205 dL_law_208 ?_
  refine lv_aload_n hx hb dL_law_209 rfl (lv_at hl 4 rfl) ?_
  refine lw_C hG h hS (vx_runSW (As := [.ref (gA G 139), .int (xs (i + 1)), .int (xs (i + 2)), .int (xs (i + 3)), .int (bI (!(xs (i + 4) == 0))), .ref o]) (rest := []) hF (k_L_add l hlt G S H.size o f ho hR.1.1.2.2.2.1 hR.1.1.2.2.2.2.2.2.2.2 (xs (i + 1)) (xs (i + 2)) (xs (i + 3)) (!(xs (i + 4) == 0))) (vx_cwSW 6 hF.2.2.2.2 lL_law_L_add rfl rfl rfl (by decide +kernel) ⟨Nat.le_of_ble_eq_true rfl, Nat.le_of_ble_eq_true rfl⟩) ⟨hP_blind, lw_pC h⟩ rfl rfl hl.1 rfl (lv_room (Nat.le_of_ble_eq_true rfl)) dL_law_210 ⟨Nat.le_trans (by omega) (show 600000 ≤ room_1.cells by decide), Nat.le_trans (by omega) (show 7300000 ≤ room_1.slots by decide)⟩) (fun r u H locs hu h hS => ?_)
  obtain ⟨rfl, hu, hv⟩ := hu
  obtain ⟨S1, f1⟩ := u
  dsimp only at hu h hv
  subst hu
  refine W.widen (k := cells + 12) (n := slots + 72) (by omega) (by omega) ?_
  refine lv_istore (lv' := [(5, .int (nI (cdAdd S nc (xs (i + 1)) (xs (i + 2)) (xs (i + 3))))), (4, .int (nI i)), (0, .ref b), (1, .ref (gA G 139)), (2, .ref (gA G' 0)), (3, .ref o)]) hx hb dL_law_213 hl (by decide) rfl (fun ls hl => ?_)
  refine lv_aload_n hx hb dL_law_215 rfl (lv_at hl 4 rfl) ?_
  refine lw_s hx hb hX hbl hS (k := 1) (by omega) hL (by decide) (lv_at hl 2 rfl) (lv_at hl 1 rfl) dL_law_216 dL_law_217 dL_law_219 dL_law_220 dL_law_221 ?_
  refine lw_s hx hb hX hbl hS (k := 2) (by omega) hL (by decide) (lv_at hl 2 rfl) (lv_at hl 1 rfl) dL_law_222 dL_law_223 dL_law_225 dL_law_226 dL_law_227 ?_
  refine lw_s hx hb hX hbl hS (k := 3) (by omega) hL (by decide) (lv_at hl 2 rfl) (lv_at hl 1 rfl) dL_law_228 dL_law_229 dL_law_231 dL_law_232 dL_law_233 ?_
  refine lw_s hx hb hX hbl hS (k := 4) (by omega) hL (by decide) (lv_at hl 2 rfl) (lv_at hl 1 rfl) dL_law_234 dL_law_235 dL_law_237 dL_law_238 dL_law_239 ?_
  refine lw_b hx hb dL_law_240 dL_law_243 dL_law_244 dL_law_247 ?_
  refine lw_Mi hG h hS (va_runV (As := [.int (xs (i + 1)), .int (xs (i + 2)), .int (xs (i + 3)), .int (bI (!(xs (i + 4) == 0)))]) (rest := []) hF (k_X3_add l G' M H.size hmnc hR.1.1.2.2.2.2.2.2.2.1 hR.1.1.2.2.2.2.2.2.2.2 (xs (i + 1)) (xs (i + 2)) (xs (i + 3)) (!(xs (i + 4) == 0))) (cwV 4 hF.2.2.2.2 lL_law_X3_add rfl rfl rfl (by decide +kernel) ⟨Nat.le_of_ble_eq_true rfl, Nat.le_of_ble_eq_true rfl⟩) ⟨mQ_blind, lw_rM h, lw_pM h⟩ rfl rfl hl.1 rfl (lv_room (Nat.le_of_ble_eq_true rfl)) dL_law_248 ⟨Nat.le_trans (by omega) (show 600000 ≤ room_1.cells by decide), Nat.le_trans (by omega) (show 7300000 ≤ room_1.slots by decide)⟩) (fun r u H locs hm h hS => ?_)
  obtain ⟨hr9, rfl⟩ := hm
  obtain ⟨ht0, rc1, nc1, hR1⟩ := st_ok (c := cdAdd S nc (xs (i + 1)) (xs (i + 2)) (xs (i + 3))) (mc := mcAdd (mT M) nc (xs (i + 1)) (xs (i + 2)) (xs (i + 3))) hR hm0 (e_add hR _ _ _) (fun h9 => ⟨_, _, p_add hR h9⟩)
  refine lv_istore (lv' := [(6, .int r), (5, .int (nI (cdAdd S nc (xs (i + 1)) (xs (i + 2)) (xs (i + 3))))), (4, .int (nI i)), (0, .ref b), (1, .ref (gA G 139)), (2, .ref (gA G' 0)), (3, .ref o)]) hx hb dL_law_251 hl (by decide) rfl (fun ls hl => ?_)
  refine lv_aload_n hx hb dL_law_253 rfl (lv_at hl 5 rfl) ?_
  refine pv_i (va_runV (As := []) (rest := []) hF (k_X3_thrown l G' _) (cwV 0 hF.2.2.2.2 lL_law_X3_thrown rfl rfl rfl (by decide +kernel) ⟨Nat.le_of_ble_eq_true rfl, Nat.le_of_ble_eq_true rfl⟩) ⟨mP_blind, lw_rM h, lw_pT h⟩ rfl rfl hl.1 rfl (lv_room (Nat.le_of_ble_eq_true rfl)) dL_law_254 ⟨Nat.le_trans (by omega) (show 600000 ≤ room_1.cells by decide), Nat.le_trans (by omega) (show 7300000 ≤ room_1.slots by decide)⟩) (fun r9 ht => ?_)
  subst ht
  rw [ht0]
  refine lv_iload hx hb dL_law_257 (lv_at hl 1 rfl) ?_
  refine lv_icmp_eq (tgt := 264) hx hb dL_law_259 (by decide) (fun _ => ?_) (fun h9 => absurd (congrArg nI (e_add hR _ _ _).symm) h9)
  refine lv_iload hx hb dL_law_264 (lv_at hl 1 rfl) ?_
  refine lv_if_ne (tgt := 281) hx hb dL_law_266 (by decide) (fun _ => ?_) (fun ha => ?_)
  · refine lv_goto (tgt := 1501) hx hb dL_law_281 (by decide) ?_
    exact kk H locs _ _ _ rc1 nc1 ls h hS hR1 (lv_sub hl [2, 3, 4, 5, 6] rfl)
  · have ha : cdAdd S nc (xs (i + 1)) (xs (i + 2)) (xs (i + 3)) = 0 := nI_z ha (cd_lt (by unfold cdAdd; (repeat' split) <;> omega))
    have hv := hv ha
    have hr9 := hr9 ((e_add hR _ _ _).symm.trans ha)
    refine lv_aload_n hx hb dL_law_269 rfl (lv_at hl 6 rfl) ?_
    refine lv_iconst (v := nI 0) hx hb dL_law_270 (by decide) ?_
    refine nv_lald hx hb h.2.2.2.1.1 h.2.2.1 0 1 rfl rfl (i := 0) (by decide) (by decide) dL_law_271 ?_
    refine lv_iload hx hb dL_law_272 (lv_at hl 0 rfl) ?_
    refine lv_i2l (v := r.toInt64) hx hb dL_law_274 rfl ?_
    refine W.lcmp hx hb dL_law_275 ?_
    refine cv_if_eq (tgt := 281) hx hb dL_law_276 (by decide) (fun _ => ?_) (fun h9 => absurd (hv.trans ((congrArg Int32.toInt64 (rfl)).trans (congrArg Int32.toInt64 hr9.symm))) h9)
    refine lv_goto (tgt := 1501) hx hb dL_law_281 (by decide) ?_
    exact kk H locs _ _ _ rc1 nc1 ls h hS hR1 (lv_sub hl [2, 3, 4, 5, 6] rfl)
set_option maxRecDepth 100000 in
set_option maxHeartbeats 4000000 in
theorem lc_drop {p : Program} {l : Launch} {e : Env} {s : State} {m : MethodId} {below : List Frame} {meth : Method} {c : Code} (hlt : l.stackTraces = false) {b L : Nat} {xs : Nat → Int32} (hF : CallFix p m c cL_law 8 s #[Value.ref b] lw_tbl RL) (hX : va_X b L xs s s.heap) (hbl : b < s.heap.size) (hL : L ≤ 320) {G G' : GT} {o : Nat} (hG : LG s G G' o)
    {i : Nat} (hi : i + 5 ≤ L) {H : Heap} {locs : List Loc} {S M : SS} {f : Nat → Int64} (h : LH s G G' o H S M f) (hS : va_S (LAp s) s.heap H locs) {rc nc : Nat} (hR : RR S (mT M) rc nc) {cells slots : Nat} (hc : cells + 12 ≤ 600000 ∧ slots + 72 ≤ 7300000) {ls : Array Slot} (hl : lv_has ls 8 [(4, .int (nI i)), (0, .ref b), (1, .ref (gA G 139)), (2, .ref (gA G' 0)), (3, .ref o)]) {Q : State → Prop}
    (kk : ∀ (H1 : Heap) (locs1 : List Loc) (S1 M1 : SS) (f1 : Nat → Int64) (rc1 nc1 : Nat) (ls1 : Array Slot), LH s G G' o H1 S1 M1 f1 → va_S (LAp s) s.heap H1 locs1 → RR S1 (mT M1) rc1 nc1 → lv_has ls1 8 [(4, .int (nI i)), (0, .ref b), (1, .ref (gA G 139)), (2, .ref (gA G' 0)), (3, .ref o)] → W p l e room_1 s m #[Value.ref b] below meth c H1 locs1 (cells + 12) (slots + 72) Q (F0 m 1501 ls1 [])) :
    W p l e room_1 s m #[Value.ref b] below meth c H locs cells slots Q (F0 m 284 ls []) := by
  have hx := hF.1
  have hb := hF.2.1
  have ho := LG_o hG h
  have hm0 : (mT M).1 0 0 = nI 0 := hR.1.1.1
  have hmrc : M.1 0 1 = nI rc := (mT_0 M (by omega)).symm.trans hR.1.1.2.2.1
  have hmnc : M.1 0 3 = nI nc := (mT_0 M (by omega)).symm.trans hR.1.1.2.2.2.2.1
  refine lv_aload_n hx hb dL_law_284 rfl (lv_at hl 2 rfl) ?_
  refine lw_s hx hb hX hbl hS (k := 1) (by omega) hL (by decide) (lv_at hl 1 rfl) (lv_at hl 0 rfl) dL_law_285 dL_law_286 dL_law_288 dL_law_289 dL_law_290 ?_
  refine lw_s hx hb hX hbl hS (k := 2) (by omega) hL (by decide) (lv_at hl 1 rfl) (lv_at hl 0 rfl) dL_law_291 dL_law_292 dL_law_294 dL_law_295 dL_law_296 ?_
  refine lw_C hG h hS (vx_runSW (As := [.ref (gA G 139), .int (xs (i + 1)), .int (xs (i + 2))]) (rest := []) hF (k_L_drop l hlt G S H.size o f ho  (xs (i + 1)) (xs (i + 2))) (vx_cwSW 3 hF.2.2.2.2 lL_law_L_drop rfl rfl rfl (by decide +kernel) ⟨Nat.le_of_ble_eq_true rfl, Nat.le_of_ble_eq_true rfl⟩) ⟨hP_blind, lw_pC h⟩ rfl rfl hl.1 rfl (lv_room (Nat.le_of_ble_eq_true rfl)) dL_law_297 ⟨Nat.le_trans (by omega) (show 600000 ≤ room_1.cells by decide), Nat.le_trans (by omega) (show 7300000 ≤ room_1.slots by decide)⟩) (fun r u H locs hu h hS => ?_)
  obtain ⟨rfl, hu⟩ := hu
  obtain ⟨S1, f1⟩ := u
  dsimp only at hu h
  subst hu
  refine W.widen (k := cells + 12) (n := slots + 72) (by omega) (by omega) ?_
  refine lv_istore (lv' := [(5, .int (nI (cdDrop S (xs (i + 1)) (xs (i + 2))))), (4, .int (nI i)), (0, .ref b), (1, .ref (gA G 139)), (2, .ref (gA G' 0)), (3, .ref o)]) hx hb dL_law_300 hl (by decide) rfl (fun ls hl => ?_)
  refine lv_aload_n hx hb dL_law_302 rfl (lv_at hl 4 rfl) ?_
  refine lw_s hx hb hX hbl hS (k := 1) (by omega) hL (by decide) (lv_at hl 2 rfl) (lv_at hl 1 rfl) dL_law_303 dL_law_304 dL_law_306 dL_law_307 dL_law_308 ?_
  refine lw_s hx hb hX hbl hS (k := 2) (by omega) hL (by decide) (lv_at hl 2 rfl) (lv_at hl 1 rfl) dL_law_309 dL_law_310 dL_law_312 dL_law_313 dL_law_314 ?_
  refine lw_Mv hG h hS (va_runV (As := [.int (xs (i + 1)), .int (xs (i + 2))]) (rest := []) hF (k_X3_drop l G' M H.size  (xs (i + 1)) (xs (i + 2))) (cwV 2 hF.2.2.2.2 lL_law_X3_drop rfl rfl rfl (by decide +kernel) ⟨Nat.le_of_ble_eq_true rfl, Nat.le_of_ble_eq_true rfl⟩) ⟨mQ_blind, lw_rM h, lw_pM h⟩ rfl rfl hl.1 rfl (lv_room (Nat.le_of_ble_eq_true rfl)) dL_law_315 ⟨Nat.le_trans (by omega) (show 600000 ≤ room_1.cells by decide), Nat.le_trans (by omega) (show 7300000 ≤ room_1.slots by decide)⟩) (fun u H locs hm h hS => ?_)
  subst hm
  obtain ⟨ht0, rc1, nc1, hR1⟩ := st_ok (c := cdDrop S (xs (i + 1)) (xs (i + 2))) (mc := mcDrop (mT M) (xs (i + 1)) (xs (i + 2))) hR hm0 (e_drop hR _ _) (fun h9 => ⟨_, _, p_drop hR h9⟩)
  refine lv_aload_n hx hb dL_law_318 rfl (lv_at hl 4 rfl) ?_
  refine pv_i (va_runV (As := []) (rest := []) hF (k_X3_thrown l G' _) (cwV 0 hF.2.2.2.2 lL_law_X3_thrown rfl rfl rfl (by decide +kernel) ⟨Nat.le_of_ble_eq_true rfl, Nat.le_of_ble_eq_true rfl⟩) ⟨mP_blind, lw_rM h, lw_pT h⟩ rfl rfl hl.1 rfl (lv_room (Nat.le_of_ble_eq_true rfl)) dL_law_319 ⟨Nat.le_trans (by omega) (show 600000 ≤ room_1.cells by decide), Nat.le_trans (by omega) (show 7300000 ≤ room_1.slots by decide)⟩) (fun r9 ht => ?_)
  subst ht
  rw [ht0]
  refine lv_iload hx hb dL_law_322 (lv_at hl 0 rfl) ?_
  refine lv_icmp_eq (tgt := 329) hx hb dL_law_324 (by decide) (fun _ => ?_) (fun h9 => absurd (congrArg nI (e_drop hR _ _).symm) h9)
  refine lv_goto (tgt := 1501) hx hb dL_law_329 (by decide) ?_
  exact kk H locs _ _ _ rc1 nc1 ls h hS hR1 (lv_sub hl [1, 2, 3, 4, 5] rfl)
set_option maxRecDepth 100000 in
set_option maxHeartbeats 4000000 in
theorem lc_move {p : Program} {l : Launch} {e : Env} {s : State} {m : MethodId} {below : List Frame} {meth : Method} {c : Code} (hlt : l.stackTraces = false) {b L : Nat} {xs : Nat → Int32} (hF : CallFix p m c cL_law 8 s #[Value.ref b] lw_tbl RL) (hX : va_X b L xs s s.heap) (hbl : b < s.heap.size) (hL : L ≤ 320) {G G' : GT} {o : Nat} (hG : LG s G G' o)
    {i : Nat} (hi : i + 5 ≤ L) {H : Heap} {locs : List Loc} {S M : SS} {f : Nat → Int64} (h : LH s G G' o H S M f) (hS : va_S (LAp s) s.heap H locs) {rc nc : Nat} (hR : RR S (mT M) rc nc) {cells slots : Nat} (hc : cells + 12 ≤ 600000 ∧ slots + 72 ≤ 7300000) {ls : Array Slot} (hl : lv_has ls 8 [(4, .int (nI i)), (0, .ref b), (1, .ref (gA G 139)), (2, .ref (gA G' 0)), (3, .ref o)]) {Q : State → Prop}
    (kk : ∀ (H1 : Heap) (locs1 : List Loc) (S1 M1 : SS) (f1 : Nat → Int64) (rc1 nc1 : Nat) (ls1 : Array Slot), LH s G G' o H1 S1 M1 f1 → va_S (LAp s) s.heap H1 locs1 → RR S1 (mT M1) rc1 nc1 → lv_has ls1 8 [(4, .int (nI i)), (0, .ref b), (1, .ref (gA G 139)), (2, .ref (gA G' 0)), (3, .ref o)] → W p l e room_1 s m #[Value.ref b] below meth c H1 locs1 (cells + 12) (slots + 72) Q (F0 m 1501 ls1 [])) :
    W p l e room_1 s m #[Value.ref b] below meth c H locs cells slots Q (F0 m 332 ls []) := by
  have hx := hF.1
  have hb := hF.2.1
  have ho := LG_o hG h
  have hm0 : (mT M).1 0 0 = nI 0 := hR.1.1.1
  have hmrc : M.1 0 1 = nI rc := (mT_0 M (by omega)).symm.trans hR.1.1.2.2.1
  have hmnc : M.1 0 3 = nI nc := (mT_0 M (by omega)).symm.trans hR.1.1.2.2.2.2.1
  have hrk0 : ∃ rk : Nat → Nat, isP (xs (i + 1)) = true → (∀ j, j < 16 → ti (S.1 (3 * (41 + cn (xs (i + 1)))) 0) j = true → rk j ≤ 15) ∧ ∀ j, 1 ≤ j → j < 16 → ti (S.1 (3 * (41 + cn (xs (i + 1)))) 0) j = true → ∃ x', x' < 16 ∧ (mT M).1 5 (16 * (40 + cn (xs (i + 1))) + j) = nI x' ∧ ti (S.1 (3 * (41 + cn (xs (i + 1)))) 0) x' = true ∧ rk x' < rk j := by
    by_cases h9 : isP (xs (i + 1)) = true
    · obtain ⟨rk, r1⟩ := RT_rk (hR.2.2.2 (cn (xs (i + 1))) (isP_cn h9).1)
      exact ⟨rk, fun _ => r1⟩
    · exact ⟨fun _ => 0, fun z => absurd z h9⟩
  obtain ⟨rk, hrk⟩ := hrk0
  have hrkM : ∀ i9, i9 < 2 → xs (i + 1) = nI i9 → 0 ≤ (mT M).1 11 i9 → ∀ j, 1 ≤ j → j < 16 → ti ((mT M).1 4 (40 + i9)) j = true → ∃ p, p < 16 ∧ (mT M).1 5 (16 * (40 + i9) + j) = nI p ∧ ti ((mT M).1 4 (40 + i9)) p = true ∧ rk p < rk j := by
    intro i9 h1 h2 _ j q1 q2 q3
    have e9 : cn (xs (i + 1)) = i9 := by rw [h2, cn_nI (by omega)]
    have := (hrk (isP_iff.mpr ⟨i9, h1, h2⟩)).2 j q1 q2
    rw [e9, (hR.2.2.2 i9 h1).1] at this
    exact this q3
  refine lv_aload_n hx hb dL_law_332 rfl (lv_at hl 2 rfl) ?_
  refine lw_s hx hb hX hbl hS (k := 1) (by omega) hL (by decide) (lv_at hl 1 rfl) (lv_at hl 0 rfl) dL_law_333 dL_law_334 dL_law_336 dL_law_337 dL_law_338 ?_
  refine lw_s hx hb hX hbl hS (k := 2) (by omega) hL (by decide) (lv_at hl 1 rfl) (lv_at hl 0 rfl) dL_law_339 dL_law_340 dL_law_342 dL_law_343 dL_law_344 ?_
  refine lw_s hx hb hX hbl hS (k := 3) (by omega) hL (by decide) (lv_at hl 1 rfl) (lv_at hl 0 rfl) dL_law_345 dL_law_346 dL_law_348 dL_law_349 dL_law_350 ?_
  refine lw_s hx hb hX hbl hS (k := 4) (by omega) hL (by decide) (lv_at hl 1 rfl) (lv_at hl 0 rfl) dL_law_351 dL_law_352 dL_law_354 dL_law_355 dL_law_356 ?_
  refine lw_C hG h hS (vx_runSW (As := [.ref (gA G 139), .int (xs (i + 1)), .int (xs (i + 2)), .int (xs (i + 3)), .int (xs (i + 4))]) (rest := []) hF (k_L_move l hlt G S H.size o f ho  (xs (i + 1)) (xs (i + 2)) (xs (i + 3)) (xs (i + 4))) (vx_cwSW 5 hF.2.2.2.2 lL_law_L_move rfl rfl rfl (by decide +kernel) ⟨Nat.le_of_ble_eq_true rfl, Nat.le_of_ble_eq_true rfl⟩) ⟨hP_blind, lw_pC h⟩ rfl rfl hl.1 rfl (lv_room (Nat.le_of_ble_eq_true rfl)) dL_law_357 ⟨Nat.le_trans (by omega) (show 600000 ≤ room_1.cells by decide), Nat.le_trans (by omega) (show 7300000 ≤ room_1.slots by decide)⟩) (fun r u H locs hu h hS => ?_)
  obtain ⟨rfl, hu⟩ := hu
  obtain ⟨S1, f1⟩ := u
  dsimp only at hu h
  subst hu
  refine W.widen (k := cells + 12) (n := slots + 72) (by omega) (by omega) ?_
  refine lv_istore (lv' := [(5, .int (nI (cdMove S (xs (i + 1)) (xs (i + 2)) (xs (i + 3)) (xs (i + 4))))), (4, .int (nI i)), (0, .ref b), (1, .ref (gA G 139)), (2, .ref (gA G' 0)), (3, .ref o)]) hx hb dL_law_360 hl (by decide) rfl (fun ls hl => ?_)
  refine lv_aload_n hx hb dL_law_362 rfl (lv_at hl 4 rfl) ?_
  refine lw_s hx hb hX hbl hS (k := 1) (by omega) hL (by decide) (lv_at hl 2 rfl) (lv_at hl 1 rfl) dL_law_363 dL_law_364 dL_law_366 dL_law_367 dL_law_368 ?_
  refine lw_s hx hb hX hbl hS (k := 2) (by omega) hL (by decide) (lv_at hl 2 rfl) (lv_at hl 1 rfl) dL_law_369 dL_law_370 dL_law_372 dL_law_373 dL_law_374 ?_
  refine lw_s hx hb hX hbl hS (k := 3) (by omega) hL (by decide) (lv_at hl 2 rfl) (lv_at hl 1 rfl) dL_law_375 dL_law_376 dL_law_378 dL_law_379 dL_law_380 ?_
  refine lw_s hx hb hX hbl hS (k := 4) (by omega) hL (by decide) (lv_at hl 2 rfl) (lv_at hl 1 rfl) dL_law_381 dL_law_382 dL_law_384 dL_law_385 dL_law_386 ?_
  refine lw_Mv hG h hS (va_runV (As := [.int (xs (i + 1)), .int (xs (i + 2)), .int (xs (i + 3)), .int (xs (i + 4))]) (rest := []) hF (k_X3_move l G' M H.size (xs (i + 1)) (xs (i + 2)) (xs (i + 3)) (xs (i + 4)) (rk := rk) hrkM) (cwV 4 hF.2.2.2.2 lL_law_X3_move rfl rfl rfl (by decide +kernel) ⟨Nat.le_of_ble_eq_true rfl, Nat.le_of_ble_eq_true rfl⟩) ⟨mQ_blind, lw_rM h, lw_pM h⟩ rfl rfl hl.1 rfl (lv_room (Nat.le_of_ble_eq_true rfl)) dL_law_387 ⟨Nat.le_trans (by omega) (show 600000 ≤ room_1.cells by decide), Nat.le_trans (by omega) (show 7300000 ≤ room_1.slots by decide)⟩) (fun u H locs hm h hS => ?_)
  subst hm
  obtain ⟨ht0, rc1, nc1, hR1⟩ := st_ok (c := cdMove S (xs (i + 1)) (xs (i + 2)) (xs (i + 3)) (xs (i + 4))) (mc := mcMove (mT M) rk (xs (i + 1)) (xs (i + 2)) (xs (i + 3)) (xs (i + 4))) hR hm0 (e_move hR _ _ _ (fun h9 => hrk h9)) (fun h9 => ⟨_, _, p_move hR h9⟩)
  refine lv_aload_n hx hb dL_law_390 rfl (lv_at hl 4 rfl) ?_
  refine pv_i (va_runV (As := []) (rest := []) hF (k_X3_thrown l G' _) (cwV 0 hF.2.2.2.2 lL_law_X3_thrown rfl rfl rfl (by decide +kernel) ⟨Nat.le_of_ble_eq_true rfl, Nat.le_of_ble_eq_true rfl⟩) ⟨mP_blind, lw_rM h, lw_pT h⟩ rfl rfl hl.1 rfl (lv_room (Nat.le_of_ble_eq_true rfl)) dL_law_391 ⟨Nat.le_trans (by omega) (show 600000 ≤ room_1.cells by decide), Nat.le_trans (by omega) (show 7300000 ≤ room_1.slots by decide)⟩) (fun r9 ht => ?_)
  subst ht
  rw [ht0]
  refine lv_iload hx hb dL_law_394 (lv_at hl 0 rfl) ?_
  refine lv_icmp_eq (tgt := 401) hx hb dL_law_396 (by decide) (fun _ => ?_) (fun h9 => absurd (congrArg nI (e_move hR _ _ _ (fun h9 => hrk h9)).symm) h9)
  refine lv_goto (tgt := 1501) hx hb dL_law_401 (by decide) ?_
  exact kk H locs _ _ _ rc1 nc1 ls h hS hR1 (lv_sub hl [1, 2, 3, 4, 5] rfl)
set_option maxRecDepth 100000 in
set_option maxHeartbeats 4000000 in
theorem lc_write {p : Program} {l : Launch} {e : Env} {s : State} {m : MethodId} {below : List Frame} {meth : Method} {c : Code} (hlt : l.stackTraces = false) {b L : Nat} {xs : Nat → Int32} (hF : CallFix p m c cL_law 8 s #[Value.ref b] lw_tbl RL) (hX : va_X b L xs s s.heap) (hbl : b < s.heap.size) (hL : L ≤ 320) {G G' : GT} {o : Nat} (hG : LG s G G' o)
    {i : Nat} (hi : i + 5 ≤ L) {H : Heap} {locs : List Loc} {S M : SS} {f : Nat → Int64} (h : LH s G G' o H S M f) (hS : va_S (LAp s) s.heap H locs) {rc nc : Nat} (hR : RR S (mT M) rc nc) {cells slots : Nat} (hc : cells + 12 ≤ 600000 ∧ slots + 72 ≤ 7300000) {ls : Array Slot} (hl : lv_has ls 8 [(4, .int (nI i)), (0, .ref b), (1, .ref (gA G 139)), (2, .ref (gA G' 0)), (3, .ref o)]) {Q : State → Prop}
    (kk : ∀ (H1 : Heap) (locs1 : List Loc) (S1 M1 : SS) (f1 : Nat → Int64) (rc1 nc1 : Nat) (ls1 : Array Slot), LH s G G' o H1 S1 M1 f1 → va_S (LAp s) s.heap H1 locs1 → RR S1 (mT M1) rc1 nc1 → lv_has ls1 8 [(4, .int (nI i)), (0, .ref b), (1, .ref (gA G 139)), (2, .ref (gA G' 0)), (3, .ref o)] → W p l e room_1 s m #[Value.ref b] below meth c H1 locs1 (cells + 12) (slots + 72) Q (F0 m 1501 ls1 [])) :
    W p l e room_1 s m #[Value.ref b] below meth c H locs cells slots Q (F0 m 404 ls []) := by
  have hx := hF.1
  have hb := hF.2.1
  have ho := LG_o hG h
  have hm0 : (mT M).1 0 0 = nI 0 := hR.1.1.1
  have hmrc : M.1 0 1 = nI rc := (mT_0 M (by omega)).symm.trans hR.1.1.2.2.1
  have hmnc : M.1 0 3 = nI nc := (mT_0 M (by omega)).symm.trans hR.1.1.2.2.2.2.1
  refine lv_aload_n hx hb dL_law_404 rfl (lv_at hl 2 rfl) ?_
  refine lw_s hx hb hX hbl hS (k := 1) (by omega) hL (by decide) (lv_at hl 1 rfl) (lv_at hl 0 rfl) dL_law_405 dL_law_406 dL_law_408 dL_law_409 dL_law_410 ?_
  refine lw_s hx hb hX hbl hS (k := 2) (by omega) hL (by decide) (lv_at hl 1 rfl) (lv_at hl 0 rfl) dL_law_411 dL_law_412 dL_law_414 dL_law_415 dL_law_416 ?_
  refine lw_s hx hb hX hbl hS (k := 3) (by omega) hL (by decide) (lv_at hl 1 rfl) (lv_at hl 0 rfl) dL_law_417 dL_law_418 dL_law_420 dL_law_421 dL_law_422 ?_
  refine lw_s hx hb hX hbl hS (k := 4) (by omega) hL (by decide) (lv_at hl 1 rfl) (lv_at hl 0 rfl) dL_law_423 dL_law_424 dL_law_426 dL_law_427 dL_law_428 ?_
  refine lw_C hG h hS (vx_runSW (As := [.ref (gA G 139), .int (xs (i + 1)), .int (xs (i + 2)), .int (xs (i + 3)), .int (xs (i + 4))]) (rest := []) hF (k_L_write l hlt G S H.size o f ho  (xs (i + 1)) (xs (i + 2)) (xs (i + 3)) (xs (i + 4))) (vx_cwSW 5 hF.2.2.2.2 lL_law_L_write rfl rfl rfl (by decide +kernel) ⟨Nat.le_of_ble_eq_true rfl, Nat.le_of_ble_eq_true rfl⟩) ⟨hP_blind, lw_pC h⟩ rfl rfl hl.1 rfl (lv_room (Nat.le_of_ble_eq_true rfl)) dL_law_429 ⟨Nat.le_trans (by omega) (show 600000 ≤ room_1.cells by decide), Nat.le_trans (by omega) (show 7300000 ≤ room_1.slots by decide)⟩) (fun r u H locs hu h hS => ?_)
  obtain ⟨rfl, hu⟩ := hu
  obtain ⟨S1, f1⟩ := u
  dsimp only at hu h
  subst hu
  refine W.widen (k := cells + 12) (n := slots + 72) (by omega) (by omega) ?_
  refine lv_istore (lv' := [(5, .int (nI (cdWrite S (xs (i + 1)) (xs (i + 2)) (xs (i + 3))))), (4, .int (nI i)), (0, .ref b), (1, .ref (gA G 139)), (2, .ref (gA G' 0)), (3, .ref o)]) hx hb dL_law_432 hl (by decide) rfl (fun ls hl => ?_)
  refine lv_aload_n hx hb dL_law_434 rfl (lv_at hl 4 rfl) ?_
  refine lw_s hx hb hX hbl hS (k := 1) (by omega) hL (by decide) (lv_at hl 2 rfl) (lv_at hl 1 rfl) dL_law_435 dL_law_436 dL_law_438 dL_law_439 dL_law_440 ?_
  refine lw_s hx hb hX hbl hS (k := 2) (by omega) hL (by decide) (lv_at hl 2 rfl) (lv_at hl 1 rfl) dL_law_441 dL_law_442 dL_law_444 dL_law_445 dL_law_446 ?_
  refine lw_s hx hb hX hbl hS (k := 3) (by omega) hL (by decide) (lv_at hl 2 rfl) (lv_at hl 1 rfl) dL_law_447 dL_law_448 dL_law_450 dL_law_451 dL_law_452 ?_
  refine lw_s hx hb hX hbl hS (k := 4) (by omega) hL (by decide) (lv_at hl 2 rfl) (lv_at hl 1 rfl) dL_law_453 dL_law_454 dL_law_456 dL_law_457 dL_law_458 ?_
  refine lw_Mv hG h hS (va_runV (As := [.int (xs (i + 1)), .int (xs (i + 2)), .int (xs (i + 3)), .int (xs (i + 4))]) (rest := []) hF (k_X3_write l G' M H.size  (xs (i + 1)) (xs (i + 2)) (xs (i + 3)) (xs (i + 4))) (cwV 4 hF.2.2.2.2 lL_law_X3_write rfl rfl rfl (by decide +kernel) ⟨Nat.le_of_ble_eq_true rfl, Nat.le_of_ble_eq_true rfl⟩) ⟨mQ_blind, lw_rM h, lw_pM h⟩ rfl rfl hl.1 rfl (lv_room (Nat.le_of_ble_eq_true rfl)) dL_law_459 ⟨Nat.le_trans (by omega) (show 600000 ≤ room_1.cells by decide), Nat.le_trans (by omega) (show 7300000 ≤ room_1.slots by decide)⟩) (fun u H locs hm h hS => ?_)
  subst hm
  obtain ⟨ht0, rc1, nc1, hR1⟩ := st_ok (c := cdWrite S (xs (i + 1)) (xs (i + 2)) (xs (i + 3))) (mc := mcWrite (mT M) (xs (i + 1)) (xs (i + 2)) (xs (i + 3))) hR hm0 (e_write hR _ _ _) (fun h9 => ⟨_, _, p_write hR h9⟩)
  refine lv_aload_n hx hb dL_law_462 rfl (lv_at hl 4 rfl) ?_
  refine pv_i (va_runV (As := []) (rest := []) hF (k_X3_thrown l G' _) (cwV 0 hF.2.2.2.2 lL_law_X3_thrown rfl rfl rfl (by decide +kernel) ⟨Nat.le_of_ble_eq_true rfl, Nat.le_of_ble_eq_true rfl⟩) ⟨mP_blind, lw_rM h, lw_pT h⟩ rfl rfl hl.1 rfl (lv_room (Nat.le_of_ble_eq_true rfl)) dL_law_463 ⟨Nat.le_trans (by omega) (show 600000 ≤ room_1.cells by decide), Nat.le_trans (by omega) (show 7300000 ≤ room_1.slots by decide)⟩) (fun r9 ht => ?_)
  subst ht
  rw [ht0]
  refine lv_iload hx hb dL_law_466 (lv_at hl 0 rfl) ?_
  refine lv_icmp_eq (tgt := 473) hx hb dL_law_468 (by decide) (fun _ => ?_) (fun h9 => absurd (congrArg nI (e_write hR _ _ _).symm) h9)
  refine lv_goto (tgt := 1501) hx hb dL_law_473 (by decide) ?_
  exact kk H locs _ _ _ rc1 nc1 ls h hS hR1 (lv_sub hl [1, 2, 3, 4, 5] rfl)
set_option maxRecDepth 100000 in
set_option maxHeartbeats 4000000 in
theorem lc_commit {p : Program} {l : Launch} {e : Env} {s : State} {m : MethodId} {below : List Frame} {meth : Method} {c : Code} (hlt : l.stackTraces = false) {b L : Nat} {xs : Nat → Int32} (hF : CallFix p m c cL_law 8 s #[Value.ref b] lw_tbl RL) (hX : va_X b L xs s s.heap) (hbl : b < s.heap.size) (hL : L ≤ 320) {G G' : GT} {o : Nat} (hG : LG s G G' o)
    {i : Nat} (hi : i + 5 ≤ L) {H : Heap} {locs : List Loc} {S M : SS} {f : Nat → Int64} (h : LH s G G' o H S M f) (hS : va_S (LAp s) s.heap H locs) {rc nc : Nat} (hR : RR S (mT M) rc nc) {cells slots : Nat} (hc : cells + 12 ≤ 600000 ∧ slots + 72 ≤ 7300000) {ls : Array Slot} (hl : lv_has ls 8 [(4, .int (nI i)), (0, .ref b), (1, .ref (gA G 139)), (2, .ref (gA G' 0)), (3, .ref o)]) {Q : State → Prop}
    (kk : ∀ (H1 : Heap) (locs1 : List Loc) (S1 M1 : SS) (f1 : Nat → Int64) (rc1 nc1 : Nat) (ls1 : Array Slot), LH s G G' o H1 S1 M1 f1 → va_S (LAp s) s.heap H1 locs1 → RR S1 (mT M1) rc1 nc1 → lv_has ls1 8 [(4, .int (nI i)), (0, .ref b), (1, .ref (gA G 139)), (2, .ref (gA G' 0)), (3, .ref o)] → W p l e room_1 s m #[Value.ref b] below meth c H1 locs1 (cells + 12) (slots + 72) Q (F0 m 1501 ls1 [])) :
    W p l e room_1 s m #[Value.ref b] below meth c H locs cells slots Q (F0 m 476 ls []) := by
  have hx := hF.1
  have hb := hF.2.1
  have ho := LG_o hG h
  have hm0 : (mT M).1 0 0 = nI 0 := hR.1.1.1
  have hmrc : M.1 0 1 = nI rc := (mT_0 M (by omega)).symm.trans hR.1.1.2.2.1
  have hmnc : M.1 0 3 = nI nc := (mT_0 M (by omega)).symm.trans hR.1.1.2.2.2.2.1
  have hbC : ∀ i, i < 2 → (¬ S.1 (129 + 5 * i) 4 = -1) → ∃ b, b < 40 ∧ S.1 (129 + 5 * i) 4 = nI b := fun i h1 h2 => by
    obtain ⟨b, q1, q2, _⟩ := R_baseI hR h1 h2
    exact ⟨b, Nat.lt_of_lt_of_le q1 hR.1.1.2.2.2.2.2.2.1, q2⟩
  have hbM : ∀ i, i < 2 → (¬ (mT M).1 11 i < 0) → ∃ b, b < 40 ∧ (mT M).1 11 i = nI b := fun i h1 h2 => by
    rcases (hR.2.1 i h1).2.2.2.1.2 with q | ⟨b, q1, q2⟩
    · exact absurd (by rw [q]; decide) h2
    · exact ⟨b, Nat.lt_of_lt_of_le q1 hR.1.1.2.2.2.2.2.2.1, q2⟩
  refine lv_aload_n hx hb dL_law_476 rfl (lv_at hl 2 rfl) ?_
  refine lw_s hx hb hX hbl hS (k := 1) (by omega) hL (by decide) (lv_at hl 1 rfl) (lv_at hl 0 rfl) dL_law_477 dL_law_478 dL_law_480 dL_law_481 dL_law_482 ?_
  refine lv_aload_n hx hb dL_law_483 rfl (lv_at hl 4 rfl) ?_
  refine lw_C hG h hS (vx_runSW (As := [.ref (gA G 139), .int (xs (i + 1)), .ref o]) (rest := []) hF (k_L_commit l hlt G S H.size o f ho hR.1.1.2.1 hR.1.1.2.2.2.2.2.2.1 hR.1.1.2.2.2.1 hR.1.1.2.2.2.2.2.2.2.2 hR.1.1.2.2.2.2.2.2.2.1 hbC (xs (i + 1))) (vx_cwSW 3 hF.2.2.2.2 lL_law_L_commit rfl rfl rfl (by decide +kernel) ⟨Nat.le_of_ble_eq_true rfl, Nat.le_of_ble_eq_true rfl⟩) ⟨hP_blind, lw_pC h⟩ rfl rfl hl.1 rfl (lv_room (Nat.le_of_ble_eq_true rfl)) dL_law_484 ⟨Nat.le_trans (by omega) (show 600000 ≤ room_1.cells by decide), Nat.le_trans (by omega) (show 7300000 ≤ room_1.slots by decide)⟩) (fun r u H locs hu h hS => ?_)
  obtain ⟨rfl, hu, hv⟩ := hu
  obtain ⟨S1, f1⟩ := u
  dsimp only at hu h hv
  subst hu
  refine W.widen (k := cells + 12) (n := slots + 72) (by omega) (by omega) ?_
  refine lv_istore (lv' := [(5, .int (nI (l2 (cdCommit S rc (xs (i + 1)))))), (4, .int (nI i)), (0, .ref b), (1, .ref (gA G 139)), (2, .ref (gA G' 0)), (3, .ref o)]) hx hb dL_law_487 hl (by decide) rfl (fun ls hl => ?_)
  refine lv_aload_n hx hb dL_law_489 rfl (lv_at hl 4 rfl) ?_
  refine lw_s hx hb hX hbl hS (k := 1) (by omega) hL (by decide) (lv_at hl 2 rfl) (lv_at hl 1 rfl) dL_law_490 dL_law_491 dL_law_493 dL_law_494 dL_law_495 ?_
  refine lw_Mi hG h hS (va_runV (As := [.int (xs (i + 1))]) (rest := []) hF (k_X3_commit l G' M H.size hmrc hR.1.1.2.2.2.2.2.1 hR.1.1.2.2.2.2.2.2.1 hbM (xs (i + 1))) (cwV 1 hF.2.2.2.2 lL_law_X3_commit rfl rfl rfl (by decide +kernel) ⟨Nat.le_of_ble_eq_true rfl, Nat.le_of_ble_eq_true rfl⟩) ⟨mQ_blind, lw_rM h, lw_pM h⟩ rfl rfl hl.1 rfl (lv_room (Nat.le_of_ble_eq_true rfl)) dL_law_496 ⟨Nat.le_trans (by omega) (show 600000 ≤ room_1.cells by decide), Nat.le_trans (by omega) (show 7300000 ≤ room_1.slots by decide)⟩) (fun r u H locs hm h hS => ?_)
  obtain ⟨hr9, rfl⟩ := hm
  have hif : (if cdCommit S rc (xs (i + 1)) = 0 then doCommit S rc nc (cn (xs (i + 1))) (cn (S.1 (129 + 5 * cn (xs (i + 1))) 4)) else S) = (if l2 (cdCommit S rc (xs (i + 1))) = 0 then doCommit S rc nc (cn (xs (i + 1))) (cn (S.1 (129 + 5 * cn (xs (i + 1))) 4)) else S) := if_of2 l2_0.symm (fun _ => rfl) (fun _ => rfl)
  rw [hif] at h
  obtain ⟨ht0, rc1, nc1, hR1⟩ := st_ok (c := l2 (cdCommit S rc (xs (i + 1)))) (mc := mcCommit (mT M) rc (xs (i + 1))) hR hm0 (e_commit hR _) (fun h9 => ⟨_, _, p_commit hR (l2_0.mp h9)⟩)
  refine lv_istore (lv' := [(6, .int r), (5, .int (nI (l2 (cdCommit S rc (xs (i + 1)))))), (4, .int (nI i)), (0, .ref b), (1, .ref (gA G 139)), (2, .ref (gA G' 0)), (3, .ref o)]) hx hb dL_law_499 hl (by decide) rfl (fun ls hl => ?_)
  refine lv_aload_n hx hb dL_law_501 rfl (lv_at hl 5 rfl) ?_
  refine pv_i (va_runV (As := []) (rest := []) hF (k_X3_thrown l G' _) (cwV 0 hF.2.2.2.2 lL_law_X3_thrown rfl rfl rfl (by decide +kernel) ⟨Nat.le_of_ble_eq_true rfl, Nat.le_of_ble_eq_true rfl⟩) ⟨mP_blind, lw_rM h, lw_pT h⟩ rfl rfl hl.1 rfl (lv_room (Nat.le_of_ble_eq_true rfl)) dL_law_502 ⟨Nat.le_trans (by omega) (show 600000 ≤ room_1.cells by decide), Nat.le_trans (by omega) (show 7300000 ≤ room_1.slots by decide)⟩) (fun r9 ht => ?_)
  subst ht
  rw [ht0]
  refine lv_iload hx hb dL_law_505 (lv_at hl 1 rfl) ?_
  refine lv_icmp_eq (tgt := 512) hx hb dL_law_507 (by decide) (fun _ => ?_) (fun h9 => absurd (congrArg nI (e_commit hR _).symm) h9)
  refine lv_iload hx hb dL_law_512 (lv_at hl 1 rfl) ?_
  refine lv_if_ne (tgt := 529) hx hb dL_law_514 (by decide) (fun _ => ?_) (fun ha => ?_)
  · refine lv_goto (tgt := 1501) hx hb dL_law_529 (by decide) ?_
    exact kk H locs _ _ _ rc1 nc1 ls h hS hR1 (lv_sub hl [2, 3, 4, 5, 6] rfl)
  · have ha : l2 (cdCommit S rc (xs (i + 1))) = 0 := nI_z ha (cd_lt (by unfold l2 cdCommit; (repeat' split) <;> omega))
    have hv := hv (l2_0.mp ha)
    have hr9 := hr9 ((e_commit hR _).symm.trans ha)
    refine lv_aload_n hx hb dL_law_517 rfl (lv_at hl 6 rfl) ?_
    refine lv_iconst (v := nI 0) hx hb dL_law_518 (by decide) ?_
    refine nv_lald hx hb h.2.2.2.1.1 h.2.2.1 0 1 rfl rfl (i := 0) (by decide) (by decide) dL_law_519 ?_
    refine lv_iload hx hb dL_law_520 (lv_at hl 0 rfl) ?_
    refine lv_i2l (v := r.toInt64) hx hb dL_law_522 rfl ?_
    refine W.lcmp hx hb dL_law_523 ?_
    refine cv_if_eq (tgt := 529) hx hb dL_law_524 (by decide) (fun _ => ?_) (fun h9 => absurd (hv.trans ((congrArg Int32.toInt64 (rfl)).trans (congrArg Int32.toInt64 hr9.symm))) h9)
    refine lv_goto (tgt := 1501) hx hb dL_law_529 (by decide) ?_
    exact kk H locs _ _ _ rc1 nc1 ls h hS hR1 (lv_sub hl [2, 3, 4, 5, 6] rfl)
set_option maxRecDepth 100000 in
set_option maxHeartbeats 4000000 in
theorem lc_decide {p : Program} {l : Launch} {e : Env} {s : State} {m : MethodId} {below : List Frame} {meth : Method} {c : Code} (hlt : l.stackTraces = false) {b L : Nat} {xs : Nat → Int32} (hF : CallFix p m c cL_law 8 s #[Value.ref b] lw_tbl RL) (hX : va_X b L xs s s.heap) (hbl : b < s.heap.size) (hL : L ≤ 320) {G G' : GT} {o : Nat} (hG : LG s G G' o)
    {i : Nat} (hi : i + 5 ≤ L) {H : Heap} {locs : List Loc} {S M : SS} {f : Nat → Int64} (h : LH s G G' o H S M f) (hS : va_S (LAp s) s.heap H locs) {rc nc : Nat} (hR : RR S (mT M) rc nc) {cells slots : Nat} (hc : cells + 12 ≤ 600000 ∧ slots + 72 ≤ 7300000) {ls : Array Slot} (hl : lv_has ls 8 [(4, .int (nI i)), (0, .ref b), (1, .ref (gA G 139)), (2, .ref (gA G' 0)), (3, .ref o)]) {Q : State → Prop}
    (kk : ∀ (H1 : Heap) (locs1 : List Loc) (S1 M1 : SS) (f1 : Nat → Int64) (rc1 nc1 : Nat) (ls1 : Array Slot), LH s G G' o H1 S1 M1 f1 → va_S (LAp s) s.heap H1 locs1 → RR S1 (mT M1) rc1 nc1 → lv_has ls1 8 [(4, .int (nI i)), (0, .ref b), (1, .ref (gA G 139)), (2, .ref (gA G' 0)), (3, .ref o)] → W p l e room_1 s m #[Value.ref b] below meth c H1 locs1 (cells + 12) (slots + 72) Q (F0 m 1501 ls1 [])) :
    W p l e room_1 s m #[Value.ref b] below meth c H locs cells slots Q (F0 m 532 ls []) := by
  have hx := hF.1
  have hb := hF.2.1
  have ho := LG_o hG h
  have hm0 : (mT M).1 0 0 = nI 0 := hR.1.1.1
  have hmrc : M.1 0 1 = nI rc := (mT_0 M (by omega)).symm.trans hR.1.1.2.2.1
  have hmnc : M.1 0 3 = nI nc := (mT_0 M (by omega)).symm.trans hR.1.1.2.2.2.2.1
  refine lv_aload_n hx hb dL_law_532 rfl (lv_at hl 2 rfl) ?_
  refine lw_s hx hb hX hbl hS (k := 1) (by omega) hL (by decide) (lv_at hl 1 rfl) (lv_at hl 0 rfl) dL_law_533 dL_law_534 dL_law_536 dL_law_537 dL_law_538 ?_
  refine lw_s hx hb hX hbl hS (k := 2) (by omega) hL (by decide) (lv_at hl 1 rfl) (lv_at hl 0 rfl) dL_law_539 dL_law_540 dL_law_542 dL_law_543 dL_law_544 ?_
  refine lw_s hx hb hX hbl hS (k := 3) (by omega) hL (by decide) (lv_at hl 1 rfl) (lv_at hl 0 rfl) dL_law_545 dL_law_546 dL_law_548 dL_law_549 dL_law_550 ?_
  refine lw_s hx hb hX hbl hS (k := 4) (by omega) hL (by decide) (lv_at hl 1 rfl) (lv_at hl 0 rfl) dL_law_551 dL_law_552 dL_law_554 dL_law_555 dL_law_556 ?_
  refine lw_C hG h hS (vx_runSW (As := [.ref (gA G 139), .int (xs (i + 1)), .int (xs (i + 2)), .int (xs (i + 3)), .int (xs (i + 4))]) (rest := []) hF (k_L_decide l hlt G S H.size o f ho hR.1.1.2.2.2.1 hR.1.1.2.2.2.2.2.2.2.2 (xs (i + 1)) (xs (i + 2)) (xs (i + 3)) (xs (i + 4))) (vx_cwSW 5 hF.2.2.2.2 lL_law_L_decide rfl rfl rfl (by decide +kernel) ⟨Nat.le_of_ble_eq_true rfl, Nat.le_of_ble_eq_true rfl⟩) ⟨hP_blind, lw_pC h⟩ rfl rfl hl.1 rfl (lv_room (Nat.le_of_ble_eq_true rfl)) dL_law_557 ⟨Nat.le_trans (by omega) (show 600000 ≤ room_1.cells by decide), Nat.le_trans (by omega) (show 7300000 ≤ room_1.slots by decide)⟩) (fun r u H locs hu h hS => ?_)
  obtain ⟨rfl, hu⟩ := hu
  obtain ⟨S1, f1⟩ := u
  dsimp only at hu h
  subst hu
  refine W.widen (k := cells + 12) (n := slots + 72) (by omega) (by omega) ?_
  refine lv_istore (lv' := [(5, .int (nI (cdDecide nc (xs (i + 1)) (xs (i + 2)) (xs (i + 3)) (xs (i + 4))))), (4, .int (nI i)), (0, .ref b), (1, .ref (gA G 139)), (2, .ref (gA G' 0)), (3, .ref o)]) hx hb dL_law_560 hl (by decide) rfl (fun ls hl => ?_)
  refine lv_aload_n hx hb dL_law_562 rfl (lv_at hl 4 rfl) ?_
  refine lw_s hx hb hX hbl hS (k := 1) (by omega) hL (by decide) (lv_at hl 2 rfl) (lv_at hl 1 rfl) dL_law_563 dL_law_564 dL_law_566 dL_law_567 dL_law_568 ?_
  refine lw_s hx hb hX hbl hS (k := 2) (by omega) hL (by decide) (lv_at hl 2 rfl) (lv_at hl 1 rfl) dL_law_569 dL_law_570 dL_law_572 dL_law_573 dL_law_574 ?_
  refine lw_s hx hb hX hbl hS (k := 3) (by omega) hL (by decide) (lv_at hl 2 rfl) (lv_at hl 1 rfl) dL_law_575 dL_law_576 dL_law_578 dL_law_579 dL_law_580 ?_
  refine lw_s hx hb hX hbl hS (k := 4) (by omega) hL (by decide) (lv_at hl 2 rfl) (lv_at hl 1 rfl) dL_law_581 dL_law_582 dL_law_584 dL_law_585 dL_law_586 ?_
  refine lw_Mv hG h hS (va_runV (As := [.int (xs (i + 1)), .int (xs (i + 2)), .int (xs (i + 3)), .int (xs (i + 4))]) (rest := []) hF (k_X3_decide l G' M H.size hmnc hR.1.1.2.2.2.2.2.2.2.1 hR.1.1.2.2.2.2.2.2.2.2 (xs (i + 1)) (xs (i + 2)) (xs (i + 3)) (xs (i + 4))) (cwV 4 hF.2.2.2.2 lL_law_X3_decide rfl rfl rfl (by decide +kernel) ⟨Nat.le_of_ble_eq_true rfl, Nat.le_of_ble_eq_true rfl⟩) ⟨mQ_blind, lw_rM h, lw_pM h⟩ rfl rfl hl.1 rfl (lv_room (Nat.le_of_ble_eq_true rfl)) dL_law_587 ⟨Nat.le_trans (by omega) (show 600000 ≤ room_1.cells by decide), Nat.le_trans (by omega) (show 7300000 ≤ room_1.slots by decide)⟩) (fun u H locs hm h hS => ?_)
  subst hm
  obtain ⟨ht0, rc1, nc1, hR1⟩ := st_ok (c := cdDecide nc (xs (i + 1)) (xs (i + 2)) (xs (i + 3)) (xs (i + 4))) (mc := mcDecide nc (xs (i + 1)) (xs (i + 2)) (xs (i + 3)) (xs (i + 4))) hR hm0 (e_decide _ _ _ _ _) (fun h9 => ⟨_, _, p_decide hR h9⟩)
  refine lv_aload_n hx hb dL_law_590 rfl (lv_at hl 4 rfl) ?_
  refine pv_i (va_runV (As := []) (rest := []) hF (k_X3_thrown l G' _) (cwV 0 hF.2.2.2.2 lL_law_X3_thrown rfl rfl rfl (by decide +kernel) ⟨Nat.le_of_ble_eq_true rfl, Nat.le_of_ble_eq_true rfl⟩) ⟨mP_blind, lw_rM h, lw_pT h⟩ rfl rfl hl.1 rfl (lv_room (Nat.le_of_ble_eq_true rfl)) dL_law_591 ⟨Nat.le_trans (by omega) (show 600000 ≤ room_1.cells by decide), Nat.le_trans (by omega) (show 7300000 ≤ room_1.slots by decide)⟩) (fun r9 ht => ?_)
  subst ht
  rw [ht0]
  refine lv_iload hx hb dL_law_594 (lv_at hl 0 rfl) ?_
  refine lv_icmp_eq (tgt := 601) hx hb dL_law_596 (by decide) (fun _ => ?_) (fun h9 => absurd (congrArg nI (e_decide _ _ _ _ _).symm) h9)
  refine lv_goto (tgt := 1501) hx hb dL_law_601 (by decide) ?_
  exact kk H locs _ _ _ rc1 nc1 ls h hS hR1 (lv_sub hl [1, 2, 3, 4, 5] rfl)
set_option maxRecDepth 100000 in
set_option maxHeartbeats 4000000 in
theorem lc_bury {p : Program} {l : Launch} {e : Env} {s : State} {m : MethodId} {below : List Frame} {meth : Method} {c : Code} (hlt : l.stackTraces = false) {b L : Nat} {xs : Nat → Int32} (hF : CallFix p m c cL_law 8 s #[Value.ref b] lw_tbl RL) (hX : va_X b L xs s s.heap) (hbl : b < s.heap.size) (hL : L ≤ 320) {G G' : GT} {o : Nat} (hG : LG s G G' o)
    {i : Nat} (hi : i + 5 ≤ L) {H : Heap} {locs : List Loc} {S M : SS} {f : Nat → Int64} (h : LH s G G' o H S M f) (hS : va_S (LAp s) s.heap H locs) {rc nc : Nat} (hR : RR S (mT M) rc nc) {cells slots : Nat} (hc : cells + 12 ≤ 600000 ∧ slots + 72 ≤ 7300000) {ls : Array Slot} (hl : lv_has ls 8 [(4, .int (nI i)), (0, .ref b), (1, .ref (gA G 139)), (2, .ref (gA G' 0)), (3, .ref o)]) {Q : State → Prop}
    (kk : ∀ (H1 : Heap) (locs1 : List Loc) (S1 M1 : SS) (f1 : Nat → Int64) (rc1 nc1 : Nat) (ls1 : Array Slot), LH s G G' o H1 S1 M1 f1 → va_S (LAp s) s.heap H1 locs1 → RR S1 (mT M1) rc1 nc1 → lv_has ls1 8 [(4, .int (nI i)), (0, .ref b), (1, .ref (gA G 139)), (2, .ref (gA G' 0)), (3, .ref o)] → W p l e room_1 s m #[Value.ref b] below meth c H1 locs1 (cells + 12) (slots + 72) Q (F0 m 1501 ls1 [])) :
    W p l e room_1 s m #[Value.ref b] below meth c H locs cells slots Q (F0 m 604 ls []) := by
  have hx := hF.1
  have hb := hF.2.1
  have ho := LG_o hG h
  have hm0 : (mT M).1 0 0 = nI 0 := hR.1.1.1
  have hmrc : M.1 0 1 = nI rc := (mT_0 M (by omega)).symm.trans hR.1.1.2.2.1
  have hmnc : M.1 0 3 = nI nc := (mT_0 M (by omega)).symm.trans hR.1.1.2.2.2.2.1
  refine lv_aload_n hx hb dL_law_604 rfl (lv_at hl 2 rfl) ?_
  refine lw_s hx hb hX hbl hS (k := 1) (by omega) hL (by decide) (lv_at hl 1 rfl) (lv_at hl 0 rfl) dL_law_605 dL_law_606 dL_law_608 dL_law_609 dL_law_610 ?_
  refine lw_s hx hb hX hbl hS (k := 2) (by omega) hL (by decide) (lv_at hl 1 rfl) (lv_at hl 0 rfl) dL_law_611 dL_law_612 dL_law_614 dL_law_615 dL_law_616 ?_
  refine lw_s hx hb hX hbl hS (k := 3) (by omega) hL (by decide) (lv_at hl 1 rfl) (lv_at hl 0 rfl) dL_law_617 dL_law_618 dL_law_620 dL_law_621 dL_law_622 ?_
  refine lw_b hx hb dL_law_623 dL_law_626 dL_law_627 dL_law_630 ?_
  refine lw_C hG h hS (vx_runSW (As := [.ref (gA G 139), .int (xs (i + 1)), .int (xs (i + 2)), .int (bI (!(xs (i + 3) == 0)))]) (rest := []) hF (k_L_bury l hlt G S H.size o f ho hR.1.1.2.2.2.1 hR.1.1.2.2.2.2.2.2.2.2 (xs (i + 1)) (xs (i + 2)) (!(xs (i + 3) == 0))) (vx_cwSW 4 hF.2.2.2.2 lL_law_L_bury rfl rfl rfl (by decide +kernel) ⟨Nat.le_of_ble_eq_true rfl, Nat.le_of_ble_eq_true rfl⟩) ⟨hP_blind, lw_pC h⟩ rfl rfl hl.1 rfl (lv_room (Nat.le_of_ble_eq_true rfl)) dL_law_631 ⟨Nat.le_trans (by omega) (show 600000 ≤ room_1.cells by decide), Nat.le_trans (by omega) (show 7300000 ≤ room_1.slots by decide)⟩) (fun r u H locs hu h hS => ?_)
  obtain ⟨rfl, hu⟩ := hu
  obtain ⟨S1, f1⟩ := u
  dsimp only at hu h
  subst hu
  refine W.widen (k := cells + 12) (n := slots + 72) (by omega) (by omega) ?_
  refine lv_istore (lv' := [(5, .int (nI (cdBury nc (xs (i + 1)) (xs (i + 2))))), (4, .int (nI i)), (0, .ref b), (1, .ref (gA G 139)), (2, .ref (gA G' 0)), (3, .ref o)]) hx hb dL_law_634 hl (by decide) rfl (fun ls hl => ?_)
  refine lv_aload_n hx hb dL_law_636 rfl (lv_at hl 4 rfl) ?_
  refine lw_s hx hb hX hbl hS (k := 1) (by omega) hL (by decide) (lv_at hl 2 rfl) (lv_at hl 1 rfl) dL_law_637 dL_law_638 dL_law_640 dL_law_641 dL_law_642 ?_
  refine lw_s hx hb hX hbl hS (k := 2) (by omega) hL (by decide) (lv_at hl 2 rfl) (lv_at hl 1 rfl) dL_law_643 dL_law_644 dL_law_646 dL_law_647 dL_law_648 ?_
  refine lw_s hx hb hX hbl hS (k := 3) (by omega) hL (by decide) (lv_at hl 2 rfl) (lv_at hl 1 rfl) dL_law_649 dL_law_650 dL_law_652 dL_law_653 dL_law_654 ?_
  refine lw_b hx hb dL_law_655 dL_law_658 dL_law_659 dL_law_662 ?_
  refine lw_Mv hG h hS (va_runV (As := [.int (xs (i + 1)), .int (xs (i + 2)), .int (bI (!(xs (i + 3) == 0)))]) (rest := []) hF (k_X3_bury l G' M H.size hmnc hR.1.1.2.2.2.2.2.2.2.1 hR.1.1.2.2.2.2.2.2.2.2 (xs (i + 1)) (xs (i + 2)) (!(xs (i + 3) == 0))) (cwV 3 hF.2.2.2.2 lL_law_X3_bury rfl rfl rfl (by decide +kernel) ⟨Nat.le_of_ble_eq_true rfl, Nat.le_of_ble_eq_true rfl⟩) ⟨mQ_blind, lw_rM h, lw_pM h⟩ rfl rfl hl.1 rfl (lv_room (Nat.le_of_ble_eq_true rfl)) dL_law_663 ⟨Nat.le_trans (by omega) (show 600000 ≤ room_1.cells by decide), Nat.le_trans (by omega) (show 7300000 ≤ room_1.slots by decide)⟩) (fun u H locs hm h hS => ?_)
  subst hm
  obtain ⟨ht0, rc1, nc1, hR1⟩ := st_ok (c := cdBury nc (xs (i + 1)) (xs (i + 2))) (mc := mcBury nc (xs (i + 1)) (xs (i + 2))) hR hm0 (rfl) (fun h9 => ⟨_, _, p_bury hR h9⟩)
  refine lv_aload_n hx hb dL_law_666 rfl (lv_at hl 4 rfl) ?_
  refine pv_i (va_runV (As := []) (rest := []) hF (k_X3_thrown l G' _) (cwV 0 hF.2.2.2.2 lL_law_X3_thrown rfl rfl rfl (by decide +kernel) ⟨Nat.le_of_ble_eq_true rfl, Nat.le_of_ble_eq_true rfl⟩) ⟨mP_blind, lw_rM h, lw_pT h⟩ rfl rfl hl.1 rfl (lv_room (Nat.le_of_ble_eq_true rfl)) dL_law_667 ⟨Nat.le_trans (by omega) (show 600000 ≤ room_1.cells by decide), Nat.le_trans (by omega) (show 7300000 ≤ room_1.slots by decide)⟩) (fun r9 ht => ?_)
  subst ht
  rw [ht0]
  refine lv_iload hx hb dL_law_670 (lv_at hl 0 rfl) ?_
  refine lv_icmp_eq (tgt := 677) hx hb dL_law_672 (by decide) (fun _ => ?_) (fun h9 => absurd (congrArg nI (rfl).symm) h9)
  refine lv_goto (tgt := 1501) hx hb dL_law_677 (by decide) ?_
  exact kk H locs _ _ _ rc1 nc1 ls h hS hR1 (lv_sub hl [1, 2, 3, 4, 5] rfl)
set_option maxRecDepth 100000 in
set_option maxHeartbeats 4000000 in
theorem lc_merge {p : Program} {l : Launch} {e : Env} {s : State} {m : MethodId} {below : List Frame} {meth : Method} {c : Code} (hlt : l.stackTraces = false) {b L : Nat} {xs : Nat → Int32} (hF : CallFix p m c cL_law 8 s #[Value.ref b] lw_tbl RL) (hX : va_X b L xs s s.heap) (hbl : b < s.heap.size) (hL : L ≤ 320) {G G' : GT} {o : Nat} (hG : LG s G G' o)
    {i : Nat} (hi : i + 5 ≤ L) {H : Heap} {locs : List Loc} {S M : SS} {f : Nat → Int64} (h : LH s G G' o H S M f) (hS : va_S (LAp s) s.heap H locs) {rc nc : Nat} (hR : RR S (mT M) rc nc) {cells slots : Nat} (hc : cells + 12 ≤ 600000 ∧ slots + 72 ≤ 7300000) {ls : Array Slot} (hl : lv_has ls 8 [(4, .int (nI i)), (0, .ref b), (1, .ref (gA G 139)), (2, .ref (gA G' 0)), (3, .ref o)]) {Q : State → Prop}
    (kk : ∀ (H1 : Heap) (locs1 : List Loc) (S1 M1 : SS) (f1 : Nat → Int64) (rc1 nc1 : Nat) (ls1 : Array Slot), LH s G G' o H1 S1 M1 f1 → va_S (LAp s) s.heap H1 locs1 → RR S1 (mT M1) rc1 nc1 → lv_has ls1 8 [(4, .int (nI i)), (0, .ref b), (1, .ref (gA G 139)), (2, .ref (gA G' 0)), (3, .ref o)] → W p l e room_1 s m #[Value.ref b] below meth c H1 locs1 (cells + 12) (slots + 72) Q (F0 m 1501 ls1 [])) :
    W p l e room_1 s m #[Value.ref b] below meth c H locs cells slots Q (F0 m 680 ls []) := by
  have hx := hF.1
  have hb := hF.2.1
  have ho := LG_o hG h
  have hm0 : (mT M).1 0 0 = nI 0 := hR.1.1.1
  have hmrc : M.1 0 1 = nI rc := (mT_0 M (by omega)).symm.trans hR.1.1.2.2.1
  have hmnc : M.1 0 3 = nI nc := (mT_0 M (by omega)).symm.trans hR.1.1.2.2.2.2.1
  have hb0 : ∃ bi : Nat → Nat, ∀ n, n < 16 → bi n < 40 ∧ S.1 142 n = nI (bi n) := ⟨fun n => if h : n < 16 then Classical.choose (hR.1.2.2.2.2.2.1 n h) else 0, fun n hn => by
    show dite _ _ _ < 40 ∧ _ = nI (dite _ _ _)
    rw [dif_pos hn]
    exact Classical.choose_spec (hR.1.2.2.2.2.2.1 n hn)⟩
  obtain ⟨bi, hbi⟩ := hb0
  have hbiM : ∀ a, a < rc → ∀ n, n < 16 → ti ((mT M).1 4 a) n = true → bi n < 40 ∧ (mT M).1 3 n = nI (bi n) := fun a q1 n q2 q3 => by
    refine ⟨(hbi n q2).1, ?_⟩
    rw [← (hR.2.2.1 a q1).2.2 n q2 (by rw [(hR.2.2.1 a q1).1.1]; exact q3)]
    exact (hbi n q2).2
  have hxm : ∀ h9 : cdMerge S rc (xs (i + 1)) (xs (i + 2)) (xs (i + 3)) = 0, _ := fun h9 => x_merge hR (fun n hn => (hbi n hn).1) (cd_merge hR.1.1.2.2.2.2.2.2.1 h9).1 (cd_merge hR.1.1.2.2.2.2.2.2.1 h9).2.1 (cd_merge hR.1.1.2.2.2.2.2.2.1 h9).2.2.1 (cd_merge hR.1.1.2.2.2.2.2.2.1 h9).2.2.2
  refine lv_aload_n hx hb dL_law_680 rfl (lv_at hl 2 rfl) ?_
  refine lw_s hx hb hX hbl hS (k := 1) (by omega) hL (by decide) (lv_at hl 1 rfl) (lv_at hl 0 rfl) dL_law_681 dL_law_682 dL_law_684 dL_law_685 dL_law_686 ?_
  refine lw_s hx hb hX hbl hS (k := 2) (by omega) hL (by decide) (lv_at hl 1 rfl) (lv_at hl 0 rfl) dL_law_687 dL_law_688 dL_law_690 dL_law_691 dL_law_692 ?_
  refine lw_s hx hb hX hbl hS (k := 3) (by omega) hL (by decide) (lv_at hl 1 rfl) (lv_at hl 0 rfl) dL_law_693 dL_law_694 dL_law_696 dL_law_697 dL_law_698 ?_
  refine lv_aload_n hx hb dL_law_699 rfl (lv_at hl 4 rfl) ?_
  refine lw_C hG h hS (vx_runSW (As := [.ref (gA G 139), .int (xs (i + 1)), .int (xs (i + 2)), .int (xs (i + 3)), .ref o]) (rest := []) hF (k_L_merge l hlt G S H.size o f ho hR.1.1.2.1 hR.1.1.2.2.2.2.2.2.1 hR.1.1.2.2.2.1 hR.1.1.2.2.2.2.2.2.2.2 hR.1.1.2.2.2.2.2.2.2.1 hbi (xs (i + 1)) (xs (i + 2)) (xs (i + 3))) (vx_cwSW 5 hF.2.2.2.2 lL_law_L_merge rfl rfl rfl (by decide +kernel) ⟨Nat.le_of_ble_eq_true rfl, Nat.le_of_ble_eq_true rfl⟩) ⟨hP_blind, lw_pC h⟩ rfl rfl hl.1 rfl (lv_room (Nat.le_of_ble_eq_true rfl)) dL_law_700 ⟨Nat.le_trans (by omega) (show 600000 ≤ room_1.cells by decide), Nat.le_trans (by omega) (show 7300000 ≤ room_1.slots by decide)⟩) (fun r u H locs hu h hS => ?_)
  obtain ⟨rfl, hu, hv⟩ := hu
  obtain ⟨S1, f1⟩ := u
  dsimp only at hu h hv
  subst hu
  refine lv_istore (lv' := [(5, .int (nI (cdMerge S rc (xs (i + 1)) (xs (i + 2)) (xs (i + 3))))), (4, .int (nI i)), (0, .ref b), (1, .ref (gA G 139)), (2, .ref (gA G' 0)), (3, .ref o)]) hx hb dL_law_703 hl (by decide) rfl (fun ls hl => ?_)
  refine lv_aload_n hx hb dL_law_705 rfl (lv_at hl 4 rfl) ?_
  refine lw_s hx hb hX hbl hS (k := 1) (by omega) hL (by decide) (lv_at hl 2 rfl) (lv_at hl 1 rfl) dL_law_706 dL_law_707 dL_law_709 dL_law_710 dL_law_711 ?_
  refine lw_s hx hb hX hbl hS (k := 2) (by omega) hL (by decide) (lv_at hl 2 rfl) (lv_at hl 1 rfl) dL_law_712 dL_law_713 dL_law_715 dL_law_716 dL_law_717 ?_
  refine lw_s hx hb hX hbl hS (k := 3) (by omega) hL (by decide) (lv_at hl 2 rfl) (lv_at hl 1 rfl) dL_law_718 dL_law_719 dL_law_721 dL_law_722 dL_law_723 ?_
  refine lw_Mi hG h hS (va_runV (As := [.int (xs (i + 1)), .int (xs (i + 2)), .int (xs (i + 3))]) (rest := []) hF (k_X3_merge l G' M H.size hmrc hR.1.1.2.2.2.2.2.1 hR.1.1.2.2.2.2.2.2.1 (bi := bi) hbiM (xs (i + 1)) (xs (i + 2)) (xs (i + 3))) (cwV 3 hF.2.2.2.2 lL_law_X3_merge rfl rfl rfl (by decide +kernel) ⟨Nat.le_of_ble_eq_true rfl, Nat.le_of_ble_eq_true rfl⟩) ⟨mQ_blind, lw_rM h, lw_pM h⟩ rfl rfl hl.1 rfl (lv_room (Nat.le_of_ble_eq_true rfl)) dL_law_724 ⟨Nat.le_trans (by omega) (show 600000 ≤ room_1.cells by decide), Nat.le_trans (by omega) (show 7300000 ≤ room_1.slots by decide)⟩) (fun r u H locs hm h hS => ?_)
  obtain ⟨hr9, rfl⟩ := hm
  obtain ⟨ht0, rc1, nc1, hR1⟩ := st_ok (c := cdMerge S rc (xs (i + 1)) (xs (i + 2)) (xs (i + 3))) (C' := (doMerge S bi rc nc (cn (xs (i + 1))) (cn (xs (i + 2))) (cn (xs (i + 3)))).2) (D := (mdMerge (mT M) bi rc (cn (xs (i + 1))) (cn (xs (i + 2))) (cn (xs (i + 3)))).2) hR hm0 (e_merge hR _ _ _) (fun h9 => by obtain ⟨rc9, q9⟩ := (hxm h9).2; exact ⟨rc9, nc, q9⟩)
  refine lv_istore (lv' := [(6, .int r), (5, .int (nI (cdMerge S rc (xs (i + 1)) (xs (i + 2)) (xs (i + 3))))), (4, .int (nI i)), (0, .ref b), (1, .ref (gA G 139)), (2, .ref (gA G' 0)), (3, .ref o)]) hx hb dL_law_727 hl (by decide) rfl (fun ls hl => ?_)
  refine lv_aload_n hx hb dL_law_729 rfl (lv_at hl 5 rfl) ?_
  refine pv_i (va_runV (As := []) (rest := []) hF (k_X3_thrown l G' _) (cwV 0 hF.2.2.2.2 lL_law_X3_thrown rfl rfl rfl (by decide +kernel) ⟨Nat.le_of_ble_eq_true rfl, Nat.le_of_ble_eq_true rfl⟩) ⟨mP_blind, lw_rM h, lw_pT h⟩ rfl rfl hl.1 rfl (lv_room (Nat.le_of_ble_eq_true rfl)) dL_law_730 ⟨Nat.le_trans (by omega) (show 600000 ≤ room_1.cells by decide), Nat.le_trans (by omega) (show 7300000 ≤ room_1.slots by decide)⟩) (fun r9 ht => ?_)
  subst ht
  rw [ht0]
  refine lv_iload hx hb dL_law_733 (lv_at hl 1 rfl) ?_
  refine lv_icmp_eq (tgt := 740) hx hb dL_law_735 (by decide) (fun _ => ?_) (fun h9 => absurd (congrArg nI (e_merge hR _ _ _).symm) h9)
  refine lv_iload hx hb dL_law_740 (lv_at hl 1 rfl) ?_
  refine lv_if_ne (tgt := 757) hx hb dL_law_742 (by decide) (fun _ => ?_) (fun ha => ?_)
  · refine lv_goto (tgt := 1501) hx hb dL_law_757 (by decide) ?_
    exact kk H locs _ _ _ rc1 nc1 ls h hS hR1 (lv_sub hl [2, 3, 4, 5, 6] rfl)
  · have ha : cdMerge S rc (xs (i + 1)) (xs (i + 2)) (xs (i + 3)) = 0 := nI_z ha (cd_lt (by unfold cdMerge; (repeat' split) <;> omega))
    have hv := hv ha
    have hr9 := hr9 ((e_merge hR _ _ _).symm.trans ha)
    refine lv_aload_n hx hb dL_law_745 rfl (lv_at hl 6 rfl) ?_
    refine lv_iconst (v := nI 0) hx hb dL_law_746 (by decide) ?_
    refine nv_lald hx hb h.2.2.2.1.1 h.2.2.1 0 1 rfl rfl (i := 0) (by decide) (by decide) dL_law_747 ?_
    refine lv_iload hx hb dL_law_748 (lv_at hl 0 rfl) ?_
    refine lv_i2l (v := r.toInt64) hx hb dL_law_750 rfl ?_
    refine W.lcmp hx hb dL_law_751 ?_
    refine cv_if_eq (tgt := 757) hx hb dL_law_752 (by decide) (fun _ => ?_) (fun h9 => absurd (hv.trans ((congrArg Int32.toInt64 ((hxm ha).1)).trans (congrArg Int32.toInt64 hr9.symm))) h9)
    refine lv_goto (tgt := 1501) hx hb dL_law_757 (by decide) ?_
    exact kk H locs _ _ _ rc1 nc1 ls h hS hR1 (lv_sub hl [2, 3, 4, 5, 6] rfl)
