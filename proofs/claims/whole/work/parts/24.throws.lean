/-! THROWS of methods that have changed nothing so far -/
def xT (P : String → Prop) : String → State → State → Prop := fun E st t => P E ∧ st.heap.size ≤ t.heap.size ∧ ∀ q : Nat, q < st.heap.size → t.heap[q]? = st.heap[q]?
abbrev eN : String := "java/util/NoSuchElementException"
abbrev eA : String := "java/lang/IllegalArgumentException"
abbrev eS : String := "java/lang/IllegalStateException"
abbrev eB (E : String) : List Cond := [.castable E E, .declares ⟨"java/lang/RuntimeException", "<init>", "(Ljava/lang/String;)V"⟩, .declares ⟨"java/lang/Exception", "<init>", "(Ljava/lang/String;)V"⟩, .declares ⟨"java/lang/Throwable", "<init>", "(Ljava/lang/String;)V"⟩]
abbrev eU : List String := ["java/lang/RuntimeException", "java/lang/Exception"]
theorem at_N0 : ∀ w ∈ (vx_atS RX2 264 eN eU).filter (fun w => !goodWord w), w ∈ eB eN := by decide +kernel
theorem at_A0 : ∀ w ∈ (vx_atS RX2 90 eA eU).filter (fun w => !goodWord w), w ∈ eB eA := by decide +kernel
theorem at_S0 : ∀ w ∈ (vx_atS RX2 97 eS eU).filter (fun w => !goodWord w), w ∈ eB eS := by decide +kernel
theorem at_all {args : Array Value} {s : State} {L : List Cond} {G : GT} {E : String} (h0 : ∀ w ∈ L.filter (fun w => !goodWord w), w ∈ eB E) (hE : E ∈ [eN, eA, eS]) (hK : cK G s s.heap) (h : ∀ w ∈ L.filter goodWord, w.before args s = true) : ∀ w ∈ L, w.before args s = true :=
  vx_hat (B := eB E) h h0 (vx_c (va_Nw.use rfl (hK.2.2.2.2.2.1 E hE)) (vx_c (va_Nw.use rfl (hK.2.2.2.2.2.2.1 _ (by decide))) (vx_c (va_Nw.use rfl (hK.2.2.2.2.2.2.1 _ (by decide))) (vx_c (va_Nw.use rfl (hK.2.2.2.2.2.2.1 _ (by decide))) vx_n))))
theorem at_Ng : ∀ w ∈ Cond.classLink RX2 260 eN :: Cond.initialized eN :: vx_atS RX2 264 eN eU, vx_ot w = true := by decide +kernel
theorem at_Ag : ∀ w ∈ Cond.classLink RX2 86 eA :: Cond.initialized eA :: vx_atS RX2 90 eA eU, vx_ot w = true := by decide +kernel
theorem at_Sg : ∀ w ∈ Cond.classLink RX2 93 eS :: Cond.initialized eS :: vx_atS RX2 97 eS eU, vx_ot w = true := by decide +kernel
theorem fit_N : Bundle.fit eN = true := by decide +kernel
theorem fit_A : Bundle.fit eA = true := by decide +kernel
theorem fit_S : Bundle.fit eS = true := by decide +kernel
theorem fit_U : ∀ n ∈ eU, Bundle.fit n = true := by decide +kernel
section TV
variable {p : Program} {l : Launch} {e : Env} {R : Room} {s : State} {m : MethodId} {args : Array Value} {below : List Frame} {meth : Method} {c : Code} {cells slots : Nat} {Q : State → Prop}
variable {cc : ByteArray} {pc : Nat} {ls : Array Slot} {rest : List Value} {Qc : Array Value → State → Outcome → State → Prop} {free : Addr → Prop} {mc ms : Nat} {P : String → Prop} {G : GT}
theorem tv_throw (hx : p.tables.exec = Jvm.exec) (hb : c.code = cc) (hl : l.stackTraces = false) (hown : s.vm.findClass RX2 = some m.cls) (hK : cK G s s.heap) (hout : ∀ x ∈ c.exceptionTable.toList, False) (hlocks : meth.locks = false) (hsize : ls.size = c.maxLocals)
    {cls text : String} {ik ic is : Nat} (hfit : Bundle.fit cls = true) (hgood : ∀ w ∈ Cond.classLink RX2 ik cls :: Cond.initialized cls :: vx_atS RX2 ic cls eU, vx_ot w = true) (h0 : ∀ w ∈ (vx_atS RX2 ic cls eU).filter (fun w => !goodWord w), w ∈ eB cls) (hE : cls ∈ [eN, eA, eS]) (hlk : (Cond.classLink RX2 ik cls).before args s = true) (hini : (Cond.initialized cls).before args s = true) (hat : ∀ w ∈ (vx_atS RX2 ic cls eU).filter goodWord, w.before args s = true)
    (hs : (is, text) ∈ sL) (hP : P cls) (hR : 5 < R.frames ∧ (rest.map fun v => v.category).sum + 82 ≤ R.locals ∧ cells + 1 ≤ R.cells ∧ slots + 6 ≤ R.slots ∧ cells + 1 ≤ mc ∧ slots + 6 ≤ ms)
    (d0 : decode cc pc = .ok (.new ik, 3)) (d3 : decode cc (pc + 3) = .ok (.dup, 1)) (d4 : decode cc (pc + 4) = .ok (.ldc is, 2)) (d6 : decode cc (pc + 6) = .ok (.invokespecial ic, 3)) (d9 : decode cc (pc + 9) = .ok (.athrow, 1)) :
    W p l e R s m args below meth c s.heap [] cells slots (vx_MQ below Qc (xT P) args s mc ms free) (F0 m pc ls rest) := by
  obtain ⟨sa, hstr⟩ := hK.2.2.2.2.1 _ hs
  exact vx_throwS (A := fun q => gN G 2 ≤ q) hx hb hl hown hfit fit_U hlk hini hstr (at_all h0 hE hK hat) hgood hK.2.2.2.2.2.2.2.1 hK.2.2.2.2.2.2.2.2 va_S.rf hsize d0 d3 d4 d6 d9 (fun x h => (hout x h).elim) hR.1 hR.2.1 hR.2.2.1 hR.2.2.2.1 hlocks (fun t _ h1 h2 => ⟨hP, h1, h2⟩) (fun _ h => nomatch h) hR.2.2.2.2.1 hR.2.2.2.2.2
theorem tv_throwW (hx : p.tables.exec = Jvm.exec) (hb : c.code = cc) (hl : l.stackTraces = false) (hown : s.vm.findClass RX2 = some m.cls) (hK : cK G s s.heap) (hout : ∀ x ∈ c.exceptionTable.toList, False) (hlocks : meth.locks = false) (hsize : ls.size = c.maxLocals)
    {cls text : String} {ik ic is : Nat} (hfit : Bundle.fit cls = true) (hgood : ∀ w ∈ Cond.classLink RX2 ik cls :: Cond.initialized cls :: vx_atS RX2 ic cls eU, vx_ot w = true) (h0 : ∀ w ∈ (vx_atS RX2 ic cls eU).filter (fun w => !goodWord w), w ∈ eB cls) (hE : cls ∈ [eN, eA, eS]) (hlk : (Cond.classLink RX2 ik cls).before args s = true) (hini : (Cond.initialized cls).before args s = true) (hat : ∀ w ∈ (vx_atS RX2 ic cls eU).filter goodWord, w.before args s = true)
    (hs : (is, text) ∈ sL) (hP : P cls) (hR : 5 < R.frames ∧ (rest.map fun v => v.category).sum + 82 ≤ R.locals ∧ cells + 1 ≤ R.cells ∧ slots + 6 ≤ R.slots ∧ cells + 1 ≤ mc ∧ slots + 6 ≤ ms)
    (d0 : decode cc pc = .ok (.new ik, 3)) (d3 : decode cc (pc + 3) = .ok (.dup, 1)) (d4 : decode cc (pc + 4) = .ok (.ldc_w is, 3)) (d6 : decode cc (pc + 7) = .ok (.invokespecial ic, 3)) (d9 : decode cc (pc + 10) = .ok (.athrow, 1)) :
    W p l e R s m args below meth c s.heap [] cells slots (vx_MQ below Qc (xT P) args s mc ms free) (F0 m pc ls rest) := by
  obtain ⟨sa, hstr⟩ := hK.2.2.2.2.1 _ hs
  exact vx_throwSW (A := fun q => gN G 2 ≤ q) hx hb hl hown hfit fit_U hlk hini hstr (at_all h0 hE hK hat) hgood hK.2.2.2.2.2.2.2.1 hK.2.2.2.2.2.2.2.2 va_S.rf hsize d0 d3 d4 d6 d9 (fun x h => (hout x h).elim) hR.1 hR.2.1 hR.2.2.1 hR.2.2.2.1 hlocks (fun t _ h1 h2 => ⟨hP, h1, h2⟩) (fun _ h => nomatch h) hR.2.2.2.2.1 hR.2.2.2.2.2
/-- a call that may throw, and else changes nothing -/
theorem tv_v {P0 : String → Prop} {post : Unit → Prop} {mc0 ms0 : Nat} {a : Array Value} {st0 : List Value} (hr : vx_Run p l e R s m args below meth c s.heap [] cells slots mc0 ms0 (F0 m pc ls st0) rest (va_Sv post a) (xT P0) (fun _ => False))
    (hout : ∀ x ∈ c.exceptionTable.toList, False) (hlocks : meth.locks = false) (hP : ∀ E, P0 E → P E) (hc : cells + mc0 ≤ mc) (hs : slots + ms0 ≤ ms)
    (kk : post () → W p l e R s m args below meth c s.heap [] (cells + mc0) (slots + ms0) (vx_MQ below Qc (xT P) args s mc ms free) (F0 m (pc + 3) ls rest)) : W p l e R s m args below meth c s.heap [] cells slots (vx_MQ below Qc (xT P) args s mc ms free) (F0 m pc ls st0) := by
  intro T hT X
  rcases hr T hT X with ⟨v, st₀, t, T', L, h0, X', hL, e1, e2, ⟨hv, hp, hh⟩, st⟩ | ⟨q, st₀, t, T', L, E, ce, h0, X', hL, e1, e2, ⟨hp, hz, hk⟩, hce, hcv, hcl, st⟩
  · cases hv
    obtain ⟨t2, a1, b1⟩ := kk hp T' (by rw [e1, hh, h0]) (Stand.forget (locs := []) X' (fun q h => (hL q h).elim))
    exact ⟨t2, st t2 a1, b1⟩
  · obtain ⟨t2, a1, b1⟩ := vx_out (Qc := Qc) (XC := xT P) (free := free) (mc := mc) (ms := ms) (pc := pc) (ls := ls) (rest := rest) (E := E) (ce := ce) (q := q) (fun x h => (hout x h).elim) hlocks (H := T'.heap) (by rw [e1]; exact hce) hcv hcl (fun u hu _ => ⟨hP E hp, by rw [hu, e1, ← h0]; exact hz, fun q9 h9 => by rw [hu, e1, hk q9 (by rw [h0]; exact h9), h0]⟩) (fun _ h => by cases h) hc hs T' rfl (Stand.forget (locs := []) X' (fun q h => (hL q h).elim))
    exact ⟨t2, st.trans a1, b1⟩
/-- the same, with a reference that comes back -/
theorem tv_r {P0 : String → Prop} {post : Nat → Prop} {mc0 ms0 : Nat} {a : Array Value} {st0 : List Value} (hr : vx_Run p l e R s m args below meth c s.heap [] cells slots mc0 ms0 (F0 m pc ls st0) rest (va_Sr post (fun k => .ref k) a) (xT P0) (fun _ => False))
    (hout : ∀ x ∈ c.exceptionTable.toList, False) (hlocks : meth.locks = false) (hP : ∀ E, P0 E → P E) (hc : cells + mc0 ≤ mc) (hs : slots + ms0 ≤ ms)
    (kk : ∀ k : Nat, post k → W p l e R s m args below meth c s.heap [] (cells + mc0) (slots + ms0) (vx_MQ below Qc (xT P) args s mc ms free) (F0 m (pc + 3) ls (.ref k :: rest))) : W p l e R s m args below meth c s.heap [] cells slots (vx_MQ below Qc (xT P) args s mc ms free) (F0 m pc ls st0) := by
  intro T hT X
  rcases hr T hT X with ⟨v, st₀, t, T', L, h0, X', hL, e1, e2, ⟨k, hv, hp, hh⟩, st⟩ | ⟨q, st₀, t, T', L, E, ce, h0, X', hL, e1, e2, ⟨hp, hz, hk⟩, hce, hcv, hcl, st⟩
  · cases hv
    obtain ⟨t2, a1, b1⟩ := kk k hp T' (by rw [e1, hh, h0]) (Stand.forget (locs := []) X' (fun q h => (hL q h).elim))
    exact ⟨t2, st t2 a1, b1⟩
  · obtain ⟨t2, a1, b1⟩ := vx_out (Qc := Qc) (XC := xT P) (free := free) (mc := mc) (ms := ms) (pc := pc) (ls := ls) (rest := rest) (E := E) (ce := ce) (q := q) (fun x h => (hout x h).elim) hlocks (H := T'.heap) (by rw [e1]; exact hce) hcv hcl (fun u hu _ => ⟨hP E hp, by rw [hu, e1, ← h0]; exact hz, fun q9 h9 => by rw [hu, e1, hk q9 (by rw [h0]; exact h9), h0]⟩) (fun _ h => by cases h) hc hs T' rfl (Stand.forget (locs := []) X' (fun q h => (hL q h).elim))
    exact ⟨t2, st.trans a1, b1⟩
/-! calls that change the world -/
theorem ev_v {B : SS → State → Prop} {post : SS → Prop} {H : Heap} {locs : List Loc} {mc0 ms0 : Nat} {a : Array Value} {st0 : List Value} (hr : va_Run p l e R s m args below meth c H locs cells slots mc0 ms0 (F0 m pc ls st0) rest (va_Qv post B (gF G H.size) a) (gF G H.size)) (hS : va_S (gF G s.heap.size) s.heap H locs)
    (kk : ∀ (u : SS) (t : State) (H1 : Heap) (locs1 : List Loc), t.heap = H1 → post u → B u t → va_S (gF G s.heap.size) s.heap H1 locs1 → W p l e R s m args below meth c H1 locs1 (cells + mc0) (slots + ms0) Q (F0 m (pc + 3) ls rest)) : W p l e R s m args below meth c H locs cells slots Q (F0 m pc ls st0) :=
  va_callv hr hS (fun q _ h => gF_up hS.1 q h) (fun q h => gF_up hS.1 q h) (fun u t H1 locs1 h1 _ h3 h4 _ _ h7 => kk u t H1 locs1 h1 h3 h4 h7)
theorem ev_i {B : SS → State → Prop} {post : Int32 → SS → Prop} {H : Heap} {locs : List Loc} {mc0 ms0 : Nat} {a : Array Value} {st0 : List Value} (hr : va_Run p l e R s m args below meth c H locs cells slots mc0 ms0 (F0 m pc ls st0) rest (va_Qi post B (gF G H.size) a) (gF G H.size)) (hS : va_S (gF G s.heap.size) s.heap H locs)
    (kk : ∀ (r : Int32) (u : SS) (t : State) (H1 : Heap) (locs1 : List Loc), t.heap = H1 → post r u → B u t → va_S (gF G s.heap.size) s.heap H1 locs1 → W p l e R s m args below meth c H1 locs1 (cells + mc0) (slots + ms0) Q (F0 m (pc + 3) ls (.int r :: rest))) : W p l e R s m args below meth c H locs cells slots Q (F0 m pc ls st0) :=
  va_calli hr hS (fun q _ h => gF_up hS.1 q h) (fun q h => gF_up hS.1 q h) (fun r u t H1 locs1 h1 _ h3 h4 _ _ h7 => kk r u t H1 locs1 h1 h3 h4 h7)
end TV
