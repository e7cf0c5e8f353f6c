/-! THE LAW'S HELPERS: their worlds (the class's, and the law's array out), and calls caught in place -/
def oW (G : GT) (o : Nat) (f : Nat → Int64) (H : Heap) : Prop := va_P (gD G) vwCl [(o, .inl (gC G 1, 1, .inr (.inl f)))] H
def oOk (G : GT) (o : Nat) : Prop := ¬ (gN G 0 ≤ o ∧ o < gN G 1)
def gO (G : GT) (o sz : Nat) : Nat → Prop := fun q => gF G sz q ∨ q = o
def hN (U : State) : Prop := va_Nc eA eN U ∧ va_Nc eS eN U ∧ va_Nc eS eA U
theorem hN.moved {u U : State} (h : u.vm.Alike U.vm) (q : hN u) : hN U := ⟨q.1.moved h, q.2.1.moved h, q.2.2.moved h⟩
def hP (G : GT) (S : SS) (o : Nat) (f : Nat → Int64) : State → Prop := fun U => cW G S U.heap ∧ cK G U U.heap ∧ oW G o f U.heap ∧ hN U
theorem hP_blind {G : GT} {S : SS} {o : Nat} {f : Nat → Int64} {sz : Nat} {av : List Value} : FrameBlind (va_Pc av (fun U => U.heap.size = sz ∧ hP G S o f U)) := fun _ _ _ _ q => ⟨q.1, q.2.1, q.2.2.1, cK.same rfl q.2.2.2.1, q.2.2.2.2.1, hN.moved (Vm.Alike.refl _) q.2.2.2.2.2⟩
def hB (G : GT) (o : Nat) : SS × (Nat → Int64) → State → Prop := fun u t => cW G u.1 t.heap ∧ oW G o u.2 t.heap
theorem oW_lt {G : GT} {o : Nat} {f : Nat → Int64} {H : Heap} (h : oW G o f H) : o < H.size := vx_lt (k := 0) h rfl
theorem cW_kept {G : GT} {S : SS} {H H1 : Heap} (h : cW G S H) (hq : ∀ q : Nat, q < H.size → H1[q]? = H[q]?) : cW G S H1 := va_P.kept h (fun k q hk => hq q.1 (vx_lt h hk))
theorem oW_kept {G : GT} {o : Nat} {f : Nat → Int64} {H H1 : Heap} (h : oW G o f H) (hq : H1[o]? = H[o]?) : oW G o f H1 := va_P.kept h (fun k q hk => by
  match k, hk with
  | 0, hk => cases hk; exact hq)
theorem gO_of {G : GT} {o sz : Nat} : ∀ q : Nat, gF G sz q → gO G o sz q := fun _ h => Or.inl h
section HV
variable {p : Program} {l : Launch} {e : Env} {R : Room} {s : State} {m : MethodId} {args : Array Value} {below : List Frame} {meth : Method} {c : Code} {Q : State → Prop}
variable {cc : ByteArray} {pc : Nat} {ls : Array Slot} {rest st0 : List Value} {mc ms : Nat} {P0 : String → Prop} {G : GT} {S : SS} {o : Nat} {f : Nat → Int64} {a : Array Value}
/-- what a throw leaves -/
abbrev hX (p : Program) (l : Launch) (e : Env) (R : Room) (s : State) (m : MethodId) (args : Array Value) (below : List Frame) (meth : Method) (c : Code) (mc ms : Nat) (Q : State → Prop) (pc : Nat) (ls : Array Slot) (rest : List Value) (P0 : String → Prop) (G : GT) (S : SS) (o : Nat) (f : Nat → Int64) : Prop :=
  ∀ (E : String) (ce : Cell) (q : Addr) (H1 : Heap) (locs1 : List Loc), P0 E → cW G S H1 → oW G o f H1 → va_S (gO G o s.heap.size) s.heap H1 locs1 → H1[q]? = some ce → ce.vm = .none → s.vm.findClass E = some ce.cls → vx_W p l e R s m args below meth c H1 locs1 mc ms Q (F0 m pc ls rest) q
theorem hv_x {st₀ t T' : State} {L : List Loc} {E : String} {ce : Cell} {q : Addr} {free : Nat → Prop} (hf : ∀ q, free q → gO G o s.heap.size q) (hW : cW G S s.heap) (hO : oW G o f s.heap) (h0 : st₀.heap = s.heap) (e1 : T'.heap = t.heap) (hL : ∀ z ∈ L, free z.base) (hx : xT P0 E st₀ t) (hce : t.heap[q]? = some ce) (hcv : ce.vm = .none) (hcl : s.vm.findClass E = some ce.cls)
    (kx : hX p l e R s m args below meth c mc ms Q pc ls rest P0 G S o f) : vx_W p l e R s m args below meth c T'.heap ([] ++ L) mc ms Q (F0 m pc ls rest) q := by
  obtain ⟨hp, hz, hk⟩ := hx
  rw [h0] at hz hk
  refine kx E ce q T'.heap ([] ++ L) hp (cW_kept hW (fun q hq => by rw [e1]; exact hk q hq)) (oW_kept hO (by rw [e1]; exact hk o (oW_lt hO))) ⟨by rw [e1]; exact hz, fun q9 h9 _ => by rw [e1]; exact hk q9 h9, fun z hz => hf _ (hL z hz)⟩ (by rw [e1]; exact hce) hcv hcl
theorem hv_F {t st₀ T' : State} {L : List Loc} (hO : oW G o f s.heap) (ho : oOk G o) (h0 : st₀.heap = s.heap) (e1 : T'.heap = t.heap) (hL : ∀ z ∈ L, gF G s.heap.size z.base) (hF : va_F (gF G s.heap.size) st₀ t) : oW G o f T'.heap ∧ va_S (gO G o s.heap.size) s.heap T'.heap ([] ++ L) := by
  obtain ⟨hz, hk⟩ := hF
  rw [h0] at hz hk
  refine ⟨oW_kept hO ?_, ⟨by rw [e1]; exact hz, fun q h1 h2 => by rw [e1]; exact hk q h1 (fun z => h2 (Or.inl z)), fun z hz => Or.inl (hL z hz)⟩⟩
  rw [e1]
  exact hk o (oW_lt hO) (fun z => z.elim ho (fun z => absurd (oW_lt hO) (Nat.not_lt.mpr z)))
theorem hv_v {post : SS → Prop} (hW : cW G S s.heap) (hO : oW G o f s.heap) (ho : oOk G o) (hr : vx_Run p l e R s m args below meth c s.heap [] 0 0 mc ms (F0 m pc ls st0) rest (va_Qv post (cB G) (gF G s.heap.size) a) (xT P0) (gF G s.heap.size))
    (kx : hX p l e R s m args below meth c (0 + mc) (0 + ms) Q pc ls rest P0 G S o f)
    (kk : ∀ (u : SS) (H1 : Heap) (locs1 : List Loc), post u → cW G u H1 → oW G o f H1 → va_S (gO G o s.heap.size) s.heap H1 locs1 → W p l e R s m args below meth c H1 locs1 (0 + mc) (0 + ms) Q (F0 m (pc + 3) ls rest)) : W p l e R s m args below meth c s.heap [] 0 0 Q (F0 m pc ls st0) := by
  intro T hT X
  rcases hr T hT X with ⟨v, st₀, t, T', L, h0, X', hL, e1, e2, ⟨⟨u, hv, hp, hb⟩, hF⟩, st⟩ | ⟨q, st₀, t, T', L, E, ce, h0, X', hL, e1, e2, hx, hce, hcv, hcl, st⟩
  · cases hv
    obtain ⟨k1, k2⟩ := hv_F hO ho h0 e1 hL hF
    obtain ⟨t2, a1, b1⟩ := kk u T'.heap ([] ++ L) hp (by rw [e1]; exact hb) k1 k2 T' rfl X'
    exact ⟨t2, st t2 a1, b1⟩
  · obtain ⟨t2, a1, b1⟩ := hv_x gO_of hW hO h0 e1 hL hx hce hcv hcl kx T' rfl X'
    exact ⟨t2, st.trans a1, b1⟩
theorem hv_i {post : Int32 → SS → Prop} (hW : cW G S s.heap) (hO : oW G o f s.heap) (ho : oOk G o) (hr : vx_Run p l e R s m args below meth c s.heap [] 0 0 mc ms (F0 m pc ls st0) rest (va_Qi post (cB G) (gF G s.heap.size) a) (xT P0) (gF G s.heap.size))
    (kx : hX p l e R s m args below meth c (0 + mc) (0 + ms) Q pc ls rest P0 G S o f)
    (kk : ∀ (r : Int32) (u : SS) (H1 : Heap) (locs1 : List Loc), post r u → cW G u H1 → oW G o f H1 → va_S (gO G o s.heap.size) s.heap H1 locs1 → W p l e R s m args below meth c H1 locs1 (0 + mc) (0 + ms) Q (F0 m (pc + 3) ls (.int r :: rest))) : W p l e R s m args below meth c s.heap [] 0 0 Q (F0 m pc ls st0) := by
  intro T hT X
  rcases hr T hT X with ⟨v, st₀, t, T', L, h0, X', hL, e1, e2, ⟨⟨r, u, hv, hp, hb⟩, hF⟩, st⟩ | ⟨q, st₀, t, T', L, E, ce, h0, X', hL, e1, e2, hx, hce, hcv, hcl, st⟩
  · cases hv
    obtain ⟨k1, k2⟩ := hv_F hO ho h0 e1 hL hF
    obtain ⟨t2, a1, b1⟩ := kk r u T'.heap ([] ++ L) hp (by rw [e1]; exact hb) k1 k2 T' rfl X'
    exact ⟨t2, st t2 a1, b1⟩
  · obtain ⟨t2, a1, b1⟩ := hv_x gO_of hW hO h0 e1 hL hx hce hcv hcl kx T' rfl X'
    exact ⟨t2, st.trans a1, b1⟩
theorem hv_si {post : Int32 → Prop} (hW : cW G S s.heap) (hO : oW G o f s.heap) (hr : vx_Run p l e R s m args below meth c s.heap [] 0 0 mc ms (F0 m pc ls st0) rest (vp_Si post a) (xT P0) (fun _ => False))
    (kx : hX p l e R s m args below meth c (0 + mc) (0 + ms) Q pc ls rest P0 G S o f)
    (kk : ∀ r : Int32, post r → W p l e R s m args below meth c s.heap [] (0 + mc) (0 + ms) Q (F0 m (pc + 3) ls (.int r :: rest))) : W p l e R s m args below meth c s.heap [] 0 0 Q (F0 m pc ls st0) := by
  intro T hT X
  rcases hr T hT X with ⟨v, st₀, t, T', L, h0, X', hL, e1, e2, ⟨r, hv, hp, hh⟩, st⟩ | ⟨q, st₀, t, T', L, E, ce, h0, X', hL, e1, e2, hx, hce, hcv, hcl, st⟩
  · cases hv
    obtain ⟨t2, a1, b1⟩ := kk r hp T' (by rw [e1, hh, h0]) (Stand.forget (locs := []) X' (fun q h => (hL q h).elim))
    exact ⟨t2, st t2 a1, b1⟩
  · obtain ⟨t2, a1, b1⟩ := hv_x (free := fun _ => False) (fun _ h => False.elim h) hW hO h0 e1 hL hx hce hcv hcl kx T' rfl X'
    exact ⟨t2, st.trans a1, b1⟩
theorem hv_sl {post : Int64 → Prop} (hW : cW G S s.heap) (hO : oW G o f s.heap) (hr : vx_Run p l e R s m args below meth c s.heap [] 0 0 mc ms (F0 m pc ls st0) rest (vp_Sl post a) (xT P0) (fun _ => False))
    (kx : hX p l e R s m args below meth c (0 + mc) (0 + ms) Q pc ls rest P0 G S o f)
    (kk : ∀ r : Int64, post r → W p l e R s m args below meth c s.heap [] (0 + mc) (0 + ms) Q (F0 m (pc + 3) ls (.long r :: rest))) : W p l e R s m args below meth c s.heap [] 0 0 Q (F0 m pc ls st0) := by
  intro T hT X
  rcases hr T hT X with ⟨v, st₀, t, T', L, h0, X', hL, e1, e2, ⟨r, hv, hp, hh⟩, st⟩ | ⟨q, st₀, t, T', L, E, ce, h0, X', hL, e1, e2, hx, hce, hcv, hcl, st⟩
  · cases hv
    obtain ⟨t2, a1, b1⟩ := kk r hp T' (by rw [e1, hh, h0]) (Stand.forget (locs := []) X' (fun q h => (hL q h).elim))
    exact ⟨t2, st t2 a1, b1⟩
  · obtain ⟨t2, a1, b1⟩ := hv_x (free := fun _ => False) (fun _ h => False.elim h) hW hO h0 e1 hL hx hce hcv hcl kx T' rfl X'
    exact ⟨t2, st.trans a1, b1⟩
/-- out[0] = x -/
theorem hv_out {H : Heap} {locs : List Loc} {cells slots : Nat} {u : SS} {x : Int64} (hx : p.tables.exec = Jvm.exec) (hb : c.code = cc) (hK : cK G s s.heap) (hW : cW G u H) (hO : oW G o f H) (ho : oOk G o) (hS : va_S (gO G o s.heap.size) s.heap H locs) (hdg : decode cc pc = .ok (.lastore, 1))
    (kk : ∀ (H1 : Heap) (locs1 : List Loc), cW G u H1 → oW G o (vp_updL f 0 x) H1 → va_S (gO G o s.heap.size) s.heap H1 locs1 → W p l e R s m args below meth c H1 locs1 cells slots Q (F0 m (pc + 1) ls rest)) : W p l e R s m args below meth c H locs cells slots Q (F0 m pc ls (.long x :: .int (nI 0) :: .ref o :: rest)) := by
  have hD : va_D (gO G o s.heap.size) ([(o, .inl (gC G 1, 1, .inr (.inl f)))] ++ cL G u) := by
    refine va_D.app ⟨fun i j p q hi hj _ => ?_, fun k q hk => ?_⟩ ((wl_D hK.2.1).weaken (fun _ _ _ h => Or.inl h)) (fun i j p q hi hj e => ?_)
    · match i, j, hi, hj with
      | 0, 0, _, _ => rfl
    · match k, hk with
      | 0, hk => cases hk; exact Or.inr rfl
    · match i, hi with
      | 0, hi =>
        cases hi
        obtain ⟨h1, rfl⟩ := wl_get hj
        exact ho (by have := hK.2.1.2.1 j h1; have e9 : o = gA G j := e; rw [← e9] at this; exact this)
  refine nv_last hx hb hK.1 (va_P.app hO hW) hD hS 0 1 rfl rfl (i := 0) (by decide) (by decide) hdg (fun H1 locs1 h1 h2 => kk H1 locs1 ?_ ?_ h2)
  · exact h1.by (fun k => k + 1) (fun k q hk => by simpa using hk)
  · exact h1.by (fun k => k) (fun k q hk => by
      match k, hk with
      | 0, hk => simpa using hk)
/-! the handlers -/
theorem hc_N {b h : Nat} {hh : List (Nat × Nat × Nat × Nat)} {ce : Cell} {q : Addr} {H : Heap} {locs : List Loc} {cells slots : Nat} (hown : s.vm.findClass RL = some m.cls) (ht : c.exceptionTable.toList = tableOf ((0, b, h, 13) :: hh)) (hpc : pc < b) (hl : (Cond.classLink RL 13 eN).before args s = true) (hK : cK G s s.heap) (hce : H[q]? = some ce) (hcv : ce.vm = .none) (hcl : s.vm.findClass eN = some ce.cls)
    (kk : W p l e R s m args below meth c H locs cells slots Q (F0 m h ls [.ref q])) : vx_W p l e R s m args below meth c H locs cells slots Q (F0 m pc ls rest) q :=
  vx_catch (name := eN) hown [] ⟨0, b, h, 13⟩ (tableOf hh) ht (fun _ h => nomatch h) (by simp [covers]; exact hpc) Nat.noConfusion hl (va_Nw.use rfl (hK.2.2.2.2.2.1 eN (by decide))) hce hcv hcl kk
theorem hc_A {b1 b h1 h : Nat} {hh : List (Nat × Nat × Nat × Nat)} {ce : Cell} {q : Addr} {H : Heap} {locs : List Loc} {cells slots : Nat} (hown : s.vm.findClass RL = some m.cls) (ht : c.exceptionTable.toList = tableOf ((0, b1, h1, 13) :: (0, b, h, 19) :: hh)) (hpc : pc < b) (hl1 : (Cond.classLink RL 13 eN).before args s = true) (hl : (Cond.classLink RL 19 eA).before args s = true) (hK : cK G s s.heap) (hn : hN s) (hce : H[q]? = some ce) (hcv : ce.vm = .none) (hcl : s.vm.findClass eA = some ce.cls)
    (kk : W p l e R s m args below meth c H locs cells slots Q (F0 m h ls [.ref q])) : vx_W p l e R s m args below meth c H locs cells slots Q (F0 m pc ls rest) q :=
  vx_catch (name := eA) hown [⟨0, b1, h1, 13⟩] ⟨0, b, h, 19⟩ (tableOf hh) ht (fun z hz => by
    cases List.mem_singleton.mp hz
    exact Or.inr ⟨Nat.noConfusion, eN, hl1, hn.1⟩) (by simp [covers]; exact hpc) Nat.noConfusion hl (va_Nw.use rfl (hK.2.2.2.2.2.1 eA (by decide))) hce hcv hcl kk
theorem hc_S {b1 b2 b h1 h2 h : Nat} {hh : List (Nat × Nat × Nat × Nat)} {ce : Cell} {q : Addr} {H : Heap} {locs : List Loc} {cells slots : Nat} (hown : s.vm.findClass RL = some m.cls) (ht : c.exceptionTable.toList = tableOf ((0, b1, h1, 13) :: (0, b2, h2, 19) :: (0, b, h, 21) :: hh)) (hpc : pc < b) (hl1 : (Cond.classLink RL 13 eN).before args s = true) (hl2 : (Cond.classLink RL 19 eA).before args s = true) (hl : (Cond.classLink RL 21 eS).before args s = true) (hK : cK G s s.heap) (hn : hN s) (hce : H[q]? = some ce) (hcv : ce.vm = .none) (hcl : s.vm.findClass eS = some ce.cls)
    (kk : W p l e R s m args below meth c H locs cells slots Q (F0 m h ls [.ref q])) : vx_W p l e R s m args below meth c H locs cells slots Q (F0 m pc ls rest) q :=
  vx_catch (name := eS) hown [⟨0, b1, h1, 13⟩, ⟨0, b2, h2, 19⟩] ⟨0, b, h, 21⟩ (tableOf hh) ht (fun z hz => by
    rcases List.mem_cons.mp hz with h9 | h9
    · cases h9; exact Or.inr ⟨Nat.noConfusion, eN, hl1, hn.2.1⟩
    · cases List.mem_singleton.mp h9
      exact Or.inr ⟨Nat.noConfusion, eA, hl2, hn.2.2⟩) (by simp [covers]; exact hpc) Nat.noConfusion hl (va_Nw.use rfl (hK.2.2.2.2.2.1 eS (by decide))) hce hcv hcl kk
theorem hc_S2 {b1 b h1 h : Nat} {hh : List (Nat × Nat × Nat × Nat)} {ce : Cell} {q : Addr} {H : Heap} {locs : List Loc} {cells slots : Nat} (hown : s.vm.findClass RL = some m.cls) (ht : c.exceptionTable.toList = tableOf ((0, b1, h1, 13) :: (0, b, h, 21) :: hh)) (hpc : pc < b) (hl1 : (Cond.classLink RL 13 eN).before args s = true) (hl : (Cond.classLink RL 21 eS).before args s = true) (hK : cK G s s.heap) (hn : hN s) (hce : H[q]? = some ce) (hcv : ce.vm = .none) (hcl : s.vm.findClass eS = some ce.cls)
    (kk : W p l e R s m args below meth c H locs cells slots Q (F0 m h ls [.ref q])) : vx_W p l e R s m args below meth c H locs cells slots Q (F0 m pc ls rest) q :=
  vx_catch (name := eS) hown [⟨0, b1, h1, 13⟩] ⟨0, b, h, 21⟩ (tableOf hh) ht (fun z hz => by
    cases List.mem_singleton.mp hz
    exact Or.inr ⟨Nat.noConfusion, eN, hl1, hn.2.1⟩) (by simp [covers]; exact hpc) Nat.noConfusion hl (va_Nw.use rfl (hK.2.2.2.2.2.1 eS (by decide))) hce hcv hcl kk
end HV
