/-! THE LAW'S ROWS -/
abbrev LAp (s : State) : Nat → Prop := fun q => s.heap.size ≤ q
/-- where the law's things lie: the class's cells, the reference's behind them, the answer's array behind those -/
def LG (s : State) (G G' : GT) (o : Nat) : Prop := s.heap.size ≤ gN G 0 ∧ gN G 1 ≤ gN G' 0 ∧ gN G' 1 ≤ o ∧ gN G 2 = s.heap.size
/-- the worlds between two calls -/
def LH (s : State) (G G' : GT) (o : Nat) (H : Heap) (S M : SS) (f : Nat → Int64) : Prop := cW G S H ∧ mW G' M H ∧ oW G o f H ∧ cK G s H ∧ mK G' s H ∧ hN s
theorem gOk_0 {n : Nat} {G : GT} (hn : 0 < n) (h : gOk n G) : gN G 0 ≤ gN G 1 := Nat.le_of_lt (Nat.lt_of_le_of_lt (h.2.1 0 hn).1 (h.2.1 0 hn).2)
theorem LG_o {s : State} {G G' : GT} {o : Nat} {H : Heap} {S M : SS} {f : Nat → Int64} (hG : LG s G G' o) (h : LH s G G' o H S M f) : oOk G o := fun z => by
  have := gOk_0 (by omega) h.2.2.2.2.1.2.1
  have := hG.2.1
  have := hG.2.2.1
  omega
theorem mW_kept {G : GT} {M : SS} {H H1 : Heap} (h : mW G M H) (hk : gOk 20 G) (hq : ∀ q : Nat, gN G 0 ≤ q → q < gN G 1 → q < H.size → H1[q]? = H[q]?) : mW G M H1 := va_P.kept h (fun k q h9 => by
  have hlt := vx_lt h h9
  obtain ⟨h1, rfl⟩ := wl_get h9
  exact hq _ (hk.2.1 k h1).1 (hk.2.1 k h1).2 hlt)
theorem cW_keptR {G : GT} {S : SS} {H H1 : Heap} (h : cW G S H) (hk : gOk 143 G) (hq : ∀ q : Nat, gN G 0 ≤ q → q < gN G 1 → q < H.size → H1[q]? = H[q]?) : cW G S H1 := va_P.kept h (fun k q h9 => by
  have hlt := vx_lt h h9
  obtain ⟨h1, rfl⟩ := wl_get h9
  exact hq _ (hk.2.1 k h1).1 (hk.2.1 k h1).2 hlt)
section LWR
variable {p : Program} {l : Launch} {e : Env} {R : Room} {s : State} {m : MethodId} {args : Array Value} {below : List Frame} {meth : Method} {c : Code} {H : Heap} {locs : List Loc} {cells slots : Nat} {Q : State → Prop}
variable {pc : Nat} {ls : Array Slot} {rest st0 : List Value} {a : Array Value} {mc ms : Nat} {G G' : GT} {o : Nat} {S M : SS} {f : Nat → Int64}
/-- a helper is called -/
theorem lw_C {post : Int32 → SS × (Nat → Int64) → Prop} (hG : LG s G G' o) (h : LH s G G' o H S M f) (hS : va_S (LAp s) s.heap H locs)
    (hr : va_Run p l e R s m args below meth c H locs cells slots mc ms (F0 m pc ls st0) rest (va_Qi post (hB G o) (gO G o H.size) a) (gO G o H.size))
    (kk : ∀ (r : Int32) (u : SS × (Nat → Int64)) (H1 : Heap) (locs1 : List Loc), post r u → LH s G G' o H1 u.1 M u.2 → va_S (LAp s) s.heap H1 locs1 → W p l e R s m args below meth c H1 locs1 (cells + mc) (slots + ms) Q (F0 m (pc + 3) ls (.int r :: rest))) :
    W p l e R s m args below meth c H locs cells slots Q (F0 m pc ls st0) := by
  have hoo := LG_o hG h
  have g0 := gOk_0 (by omega) h.2.2.2.1.2.1
  have g1 := gOk_0 (by omega) h.2.2.2.2.1.2.1
  obtain ⟨hG1, hG2, hG3, hG4⟩ := hG
  have hfr : ∀ q, gO G o H.size q → s.heap.size ≤ q := fun q hq => by
    rcases hq with (hq | hq) | hq
    · omega
    · exact Nat.le_trans hS.1 hq
    · omega
  refine va_calli hr hS (fun q _ hq => hfr q hq) hfr (fun r u t H1 locs1 h1 _ h3 h4 h5 h6 h7 => kk r u H1 locs1 h3 ?_ h7)
  obtain ⟨h41, h42⟩ := h4
  rw [h1] at h41 h42
  refine ⟨h41, mW_kept h.2.1 h.2.2.2.2.1.2.1 (fun q q1 q2 q3 => h6 q q3 (fun z => ?_)), h42, h.2.2.2.1.kept h5 (fun q q1 q2 => h6 q q1 (fun z => ?_)), ⟨h.2.2.2.2.1.1, h.2.2.2.2.1.2.1, Nat.le_trans h.2.2.2.2.1.2.2 h5⟩, h.2.2.2.2.2⟩
  · rcases z with (z | z) | z <;> omega
  · have := hfr q z; omega
/-- what holds behind a call of the reference -/
theorem lw_mk {u : SS} {H1 : Heap} (hG : LG s G G' o) (h : LH s G G' o H S M f) (hS : va_S (LAp s) s.heap H locs) (h4 : mW G' u H1) (h5 : H.size ≤ H1.size) (h6 : ∀ q : Nat, q < H.size → ¬ gF G' H.size q → H1[q]? = H[q]?) : LH s G G' o H1 S u f := by
  have g0 := gOk_0 (by omega) h.2.2.2.1.2.1
  have g1 := gOk_0 (by omega) h.2.2.2.2.1.2.1
  have ho := oW_lt h.2.2.1
  obtain ⟨hG1, hG2, hG3, hG4⟩ := hG
  refine ⟨cW_keptR h.1 h.2.2.2.1.2.1 (fun q q1 q2 q3 => h6 q q3 (fun z => ?_)), h4, oW_kept h.2.2.1 (h6 o ho (fun z => ?_)), h.2.2.2.1.kept h5 (fun q q1 q2 => h6 q q1 (fun z => ?_)), ⟨h.2.2.2.2.1.1, h.2.2.2.2.1.2.1, Nat.le_trans h.2.2.2.2.1.2.2 h5⟩, h.2.2.2.2.2⟩
  · rcases z with z | z <;> omega
  · rcases z with z | z <;> omega
  · rcases z with z | z <;> omega
theorem lw_fm (hG : LG s G G' o) (h : LH s G G' o H S M f) (hS : va_S (LAp s) s.heap H locs) : ∀ q, gF G' H.size q → s.heap.size ≤ q := fun q hq => by
  have g0 := gOk_0 (by omega) h.2.2.2.1.2.1
  obtain ⟨hG1, hG2, hG3, hG4⟩ := hG
  rcases hq with hq | hq
  · omega
  · exact Nat.le_trans hS.1 hq
theorem lw_Mv {post : SS → Prop} (hG : LG s G G' o) (h : LH s G G' o H S M f) (hS : va_S (LAp s) s.heap H locs)
    (hr : va_Run p l e R s m args below meth c H locs cells slots 0 0 (F0 m pc ls st0) rest (va_Qv post (mB G') (gF G' H.size) a) (gF G' H.size))
    (kk : ∀ (u : SS) (H1 : Heap) (locs1 : List Loc), post u → LH s G G' o H1 S u f → va_S (LAp s) s.heap H1 locs1 → W p l e R s m args below meth c H1 locs1 cells slots Q (F0 m (pc + 3) ls rest)) :
    W p l e R s m args below meth c H locs cells slots Q (F0 m pc ls st0) :=
  va_callv hr hS (fun q _ hq => lw_fm hG h hS q hq) (lw_fm hG h hS) (fun u t H1 locs1 h1 _ h3 h4 h5 h6 h7 => kk u H1 locs1 h3 (lw_mk hG h hS (by rw [← h1]; exact h4) h5 h6) h7)
theorem lw_Mi {post : Int32 → SS → Prop} (hG : LG s G G' o) (h : LH s G G' o H S M f) (hS : va_S (LAp s) s.heap H locs)
    (hr : va_Run p l e R s m args below meth c H locs cells slots 0 0 (F0 m pc ls st0) rest (va_Qi post (mB G') (gF G' H.size) a) (gF G' H.size))
    (kk : ∀ (r : Int32) (u : SS) (H1 : Heap) (locs1 : List Loc), post r u → LH s G G' o H1 S u f → va_S (LAp s) s.heap H1 locs1 → W p l e R s m args below meth c H1 locs1 cells slots Q (F0 m (pc + 3) ls (.int r :: rest))) :
    W p l e R s m args below meth c H locs cells slots Q (F0 m pc ls st0) :=
  va_calli hr hS (fun q _ hq => lw_fm hG h hS q hq) (lw_fm hG h hS) (fun r u t H1 locs1 h1 _ h3 h4 h5 h6 h7 => kk r u H1 locs1 h3 (lw_mk hG h hS (by rw [← h1]; exact h4) h5 h6) h7)
theorem lw_Ml {post : Int64 → SS → Prop} (hG : LG s G G' o) (h : LH s G G' o H S M f) (hS : va_S (LAp s) s.heap H locs)
    (hr : va_Run p l e R s m args below meth c H locs cells slots 0 0 (F0 m pc ls st0) rest (va_Ql post (mB G') (gF G' H.size) a) (gF G' H.size))
    (kk : ∀ (r : Int64) (u : SS) (H1 : Heap) (locs1 : List Loc), post r u → LH s G G' o H1 S u f → va_S (LAp s) s.heap H1 locs1 → W p l e R s m args below meth c H1 locs1 cells slots Q (F0 m (pc + 3) ls (.long r :: rest))) :
    W p l e R s m args below meth c H locs cells slots Q (F0 m pc ls st0) :=
  va_calll hr hS (fun q _ hq => lw_fm hG h hS q hq) (lw_fm hG h hS) (fun r u t H1 locs1 h1 _ h3 h4 h5 h6 h7 => kk r u H1 locs1 h3 (lw_mk hG h hS (by rw [← h1]; exact h4) h5 h6) h7)
theorem lw_pC {av : List Value} (h : LH s G G' o H S M f) : ∀ U : State, U.heap = H → s.WarmedH U.vm → va_Pc av (fun U => U.heap.size = H.size ∧ hP G S o f U) av.toArray U :=
  fun U hU hw => ⟨rfl, by rw [hU], by rw [hU]; exact h.1, by rw [hU]; exact cK.warm hw h.2.2.2.1, by rw [hU]; exact h.2.2.1, hN.moved hw.alike h.2.2.2.2.2⟩
theorem lw_pM {av : List Value} (h : LH s G G' o H S M f) : ∀ U : State, U.heap = H → s.WarmedH U.vm → va_Pc av (fun U => U.heap.size = H.size ∧ mP G' M U) av.toArray U :=
  fun U hU hw => ⟨rfl, by rw [hU], by rw [hU]; exact h.2.1, by rw [hU]; exact mK.warm hw h.2.2.2.2.1⟩
theorem lw_pT {av : List Value} (h : LH s G G' o H S M f) : ∀ U : State, U.heap = H → s.WarmedH U.vm → va_Pc av (mP G' M) av.toArray U :=
  fun U hU hw => ⟨rfl, by rw [hU]; exact h.2.1, by rw [hU]; exact mK.warm hw h.2.2.2.2.1⟩
theorem lw_rM (h : LH s G G' o H S M f) : ∃ cell : Cell, H[gA G' 0]? = some cell ∧ cell.vm.isStatics = false ∧ s.vm.findClass RX3 = some cell.cls := va_recv (ws := mL G' M) (q0 := 0) (ci := 3) h.2.2.2.2.1.1 h.2.1 rfl (wl_at (by omega))
/-- script[i + k] -/
theorem lw_s {cc : ByteArray} (hx : p.tables.exec = Jvm.exec) (hb : c.code = cc) {b L : Nat} {xs : Nat → Int32} (hX : va_X b L xs s s.heap) (hbl : b < s.heap.size) (hS : va_S (LAp s) s.heap H locs) {i k : Nat} {n : Int} (hk : i + k < L) (hL : L ≤ 320) (hn : Int32.ofInt n = nI k)
    (a0 : ls[0]? = some (.val (.ref b))) (a4 : ls[4]? = some (.val (.int (nI i))))
    (d0 : decode cc pc = .ok (.aload_n 0, 1)) (d1 : decode cc (pc + 1) = .ok (.iload 4, 2)) (d2 : decode cc (pc + 3) = .ok (.iconst n, 1)) (d3 : decode cc (pc + 4) = .ok (.iadd, 1)) (d4 : decode cc (pc + 5) = .ok (.iaload, 1))
    (kk : W p l e R s m args below meth c H locs cells slots Q (F0 m (pc + 6) ls (.int (xs (i + k)) :: rest))) : W p l e R s m args below meth c H locs cells slots Q (F0 m pc ls rest) := by
  refine lv_aload_n hx hb d0 rfl a0 ?_
  refine lv_iload hx hb d1 a4 ?_
  refine lv_iconst hx hb d2 hn ?_
  refine lv_iadd hx hb d3 ?_
  refine lv_rwi (y := nI (i + k)) (nI_add i k) ?_
  refine va_sld hx hb hX hbl (fun z => Nat.not_le.mpr hbl z) hS (vp_in_nI hk (by omega)) d4 ?_
  rw [nI_clamp (by omega)]
  exact kk
/-- x != 0 as a boolean -/
theorem lw_b {cc : ByteArray} (hx : p.tables.exec = Jvm.exec) (hb : c.code = cc) {x : Int32} (d0 : decode cc pc = .ok (.ifCond .eq 7, 3)) (d3 : decode cc (pc + 3) = .ok (.iconst 1, 1)) (d4 : decode cc (pc + 4) = .ok (.goto 4, 3)) (d7 : decode cc (pc + 7) = .ok (.iconst 0, 1))
    (kk : W p l e R s m args below meth c H locs cells slots Q (F0 m (pc + 8) ls (.int (bI (!(x == 0))) :: rest))) : W p l e R s m args below meth c H locs cells slots Q (F0 m pc ls (.int x :: rest)) := by
  refine lv_if_eq (tgt := pc + 7) hx hb d0 (by omega) (fun h => ?_) (fun h => ?_)
  · refine lv_iconst (v := nI 0) hx hb d7 (by decide) ?_
    have : bI (!(x == 0)) = nI 0 := by rw [h]; rfl
    rw [this] at kk
    exact kk
  · refine lv_iconst (v := nI 1) hx hb d3 (by decide) ?_
    refine lv_goto (tgt := pc + 8) hx hb d4 (by omega) ?_
    have : bI (!(x == 0)) = nI 1 := by
      have : (x == 0) = false := by simpa using h
      rw [this]; rfl
    rw [this] at kk
    exact kk
end LWR
theorem st_ok {C T C' D : SS} {c mc rc nc : Nat} (h : RR C T rc nc) (hT : T.1 0 0 = nI 0) (e : c = mc) (hd : c = 0 → ∃ rc' nc', RR C' D rc' nc') : (mF T mc D).1 0 0 = nI mc ∧ ∃ rc' nc', RR (if c = 0 then C' else C) (mT (mF T mc D)) rc' nc' := by
  subst e
  by_cases h0 : c = 0
  · obtain ⟨rc', nc', hr⟩ := hd h0
    rw [if_pos h0, mF_ok h0, mT_of hr.1.1.1, h0]
    exact ⟨hr.1.1.1, rc', nc', hr⟩
  · rw [if_neg h0, mF_no rfl h0]
    refine ⟨s1_h _ _ _ _, rc, nc, ?_⟩
    have : mT (s1 T 0 0 (nI c)) = T := by
      have h2 := mT_mT T (nI c)
      rwa [mT_of hT] at h2
    rw [this]; exact h
