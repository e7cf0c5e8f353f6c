/-! WHAT A METHOD KNOWS OF ITS START, and what a call needs of it. -/
/-- what the tables say: the classes, the arrays' classes, the nest mates' private members, the texts of the exceptions, Throwable's statics -/
def sL : List (Nat × String) := [(88, "a node has that place"), (95, "there are 16 nodes"), (109, "a node is in it"), (114, "another node has that place"), (120, "parent is the node or lies in it"), (126, "neither content nor attribute"), (131, "a directory has no content"), (141, "the tree is that of the base"), (163, "no such side"), (178, "one is the other or an ancestor of it"), (193, "no such conflict is listed"), (201, "neither node nor kind"), (215, "nothing is told by that number"), (262, "no such peer"), (265, "the peer has no workspace"), (267, "no such revision"), (269, "the peer does not have the revision"), (271, "there are 40 revisions"), (276, "the node is not alive there"), (278, "no such node"), (280, "the node is the root"), (282, "no such scalar"), (284, "parent is a file"), (286, "no such name"), (288, "no such key"), (290, "no such branch")]
def cK (G : GT) (U : State) (H : Heap) : Prop := va_K (gD G) vwCl (gT G) U ∧ gOk 143 G ∧ (gN G 2 ≤ H.size ∧ gN G 1 ≤ H.size) ∧
  (va_Nw (.methodLinkNest RX1 23 yX2_slot "MarkedTrees") U ∧ va_Nw (.methodLinkNest RX1 27 yX2_isIn "MarkedTrees") U ∧ va_Nw (.methodLinkNest RX0 55 yX2_isIn "MarkedTrees") U ∧ va_Nw (.methodLinkNest RX0 63 yX2_certificateKind "MarkedTrees") U) ∧
  (∀ q ∈ sL, ∃ a : Nat, vk_R RX2 q.1 q.2 a U) ∧ (∀ E ∈ ["java/util/NoSuchElementException", "java/lang/IllegalArgumentException", "java/lang/IllegalStateException"], va_Nw (.castable E E) U) ∧ (∀ E ∈ ["java/lang/RuntimeException", "java/lang/Exception", "java/lang/Throwable"], va_Nw (.declares ⟨E, "<init>", "(Ljava/lang/String;)V"⟩) U) ∧ vx_Zq Bundle.tN "UNASSIGNED_STACK" Bundle.steD (fun q => gN G 2 ≤ q) U H ∧ vx_Zq Bundle.tN "SUPPRESSED_SENTINEL" Bundle.listD (fun q => gN G 2 ≤ q) U H
theorem cK.same {G : GT} {u U : State} {H : Heap} (hv : U.vm = u.vm) (h : cK G u H) : cK G U H := by
  obtain ⟨a, b, c, ⟨d1, d2, d3, d4⟩, f, f2, f3, g1, g2⟩ := h
  have al : u.vm.Alike U.vm := by rw [hv]; exact Vm.Alike.refl _
  exact ⟨va_K.moved al a, b, c, ⟨va_Nw.same rfl hv.symm d1, va_Nw.same rfl hv.symm d2, va_Nw.same rfl hv.symm d3, va_Nw.same rfl hv.symm d4⟩, fun q hq => (f q hq).imp (fun _ z => vk_R.same hv z), fun E hE => va_Nw.same rfl hv.symm (f2 E hE), fun E hE => va_Nw.same rfl hv.symm (f3 E hE), g1.moved al, g2.moved al⟩
theorem cK.warm {G : GT} {s U : State} {H : Heap} (hW : s.WarmedH U.vm) (h : cK G s H) : cK G U H := by
  obtain ⟨a, b, c, ⟨d1, d2, d3, d4⟩, f, f2, f3, g1, g2⟩ := h
  exact ⟨va_K.moved hW.alike a, b, c, ⟨va_Nw.warmM hW d1, va_Nw.warmM hW d2, va_Nw.warmM hW d3, va_Nw.warmM hW d4⟩, fun q hq => (f q hq).imp (fun _ z => vk_R.warm hW z), fun E hE => va_Nw.warmC hW (f2 E hE), fun E hE => va_Nw.warmD hW (f3 E hE), g1.moved hW.alike, g2.moved hW.alike⟩
theorem cK.kept {G : GT} {U : State} {H H1 : Heap} (h : cK G U H) (hz : H.size ≤ H1.size) (hq : ∀ a : Nat, a < H.size → a < gN G 2 → H1[a]? = H[a]?) : cK G U H1 := by
  obtain ⟨a, b, c, d, f, f2, f3, g1, g2⟩ := h
  exact ⟨a, b, ⟨Nat.le_trans c.1 hz, Nat.le_trans c.2 hz⟩, d, f, f2, f3, g1.kept (fun x h1 h2 => hq x h1 (Nat.not_le.mp h2)), g2.kept (fun x h1 h2 => hq x h1 (Nat.not_le.mp h2))⟩
theorem cK.at {G : GT} {s : State} {H : Heap} {locs : List Loc} (h : cK G s s.heap) (hS : va_S (gF G s.heap.size) s.heap H locs) : cK G s H :=
  h.kept hS.1 (fun a h1 h2 => hS.2.1 a h1 (fun z => z.elim (fun z => absurd (Nat.le_trans h.2.1.2.2 z.1) (Nat.not_le.mpr h2)) (fun z => absurd z (Nat.not_le.mpr h1))))
/-- the start of a method of the class -/
def cP (G : GT) (S : SS) : State → Prop := fun U => cW G S U.heap ∧ cK G U U.heap
theorem cP_blind {G : GT} {S : SS} {av : List Value} : FrameBlind (va_Pc av (cP G S)) := fun _ _ _ _ q => ⟨q.1, q.2.1, cK.same rfl q.2.2⟩
theorem cP_at {G : GT} {S : SS} {s : State} {H : Heap} {locs : List Loc} {av : List Value} (hW : cW G S H) (hK : cK G s s.heap) (hS : va_S (gF G s.heap.size) s.heap H locs) : ∀ U : State, U.heap = H → s.WarmedH U.vm → va_Pc av (cP G S) av.toArray U :=
  fun U hU hw => ⟨rfl, by rw [hU]; exact hW, by rw [hU]; exact cK.warm hw (hK.at hS)⟩
/-- the world behind a method of the class -/
def cB (G : GT) : SS → State → Prop := fun S t => cW G S t.heap
def mK (G : GT) (U : State) (H : Heap) : Prop := va_K (gD G) vwCl (gT G) U ∧ gOk 20 G ∧ gN G 1 ≤ H.size
theorem mK.same {G : GT} {u U : State} {H : Heap} (hv : U.vm = u.vm) (h : mK G u H) : mK G U H := by
  have al : u.vm.Alike U.vm := by rw [hv]; exact Vm.Alike.refl _
  exact ⟨va_K.moved al h.1, h.2⟩
theorem mK.warm {G : GT} {s U : State} {H : Heap} (hW : s.WarmedH U.vm) (h : mK G s H) : mK G U H := ⟨va_K.moved hW.alike h.1, h.2⟩
theorem mK.at {G : GT} {s : State} {H : Heap} {locs : List Loc} (h : mK G s s.heap) (hS : va_S (gF G s.heap.size) s.heap H locs) : mK G s H := ⟨h.1, h.2.1, Nat.le_trans h.2.2 hS.1⟩
def mP (G : GT) (S : SS) : State → Prop := fun U => mW G S U.heap ∧ mK G U U.heap
theorem mP_blind {G : GT} {S : SS} {av : List Value} : FrameBlind (va_Pc av (mP G S)) := fun _ _ _ _ q => ⟨q.1, q.2.1, mK.same rfl q.2.2⟩
theorem mP_at {G : GT} {S : SS} {s : State} {H : Heap} {locs : List Loc} {av : List Value} (hW : mW G S H) (hK : mK G s s.heap) (hS : va_S (gF G s.heap.size) s.heap H locs) : ∀ U : State, U.heap = H → s.WarmedH U.vm → va_Pc av (mP G S) av.toArray U :=
  fun U hU hw => ⟨rfl, by rw [hU]; exact hW, by rw [hU]; exact mK.warm hw (hK.at hS)⟩
def mB (G : GT) : SS → State → Prop := fun S t => mW G S t.heap
/-! a receiver -/
theorem c_recv {G : GT} {S : SS} {s : State} {H : Heap} (hW : cW G S H) (hK : cK G s s.heap) {k ci : Nat} {fs : List Value} {q : vw_C} (he : (cL G S)[k]? = some (gA G k, .inr (ci, fs))) (hc : vwCl[ci]? = some q) : ∃ cell : Cell, H[gA G k]? = some cell ∧ cell.vm.isStatics = false ∧ s.vm.findClass q.1 = some cell.cls := va_recv hK.1 hW hc he
theorem m_recv {G : GT} {S : SS} {s : State} {H : Heap} (hW : mW G S H) (hK : mK G s s.heap) : ∃ cell : Cell, H[gA G 0]? = some cell ∧ cell.vm.isStatics = false ∧ s.vm.findClass RX3 = some cell.cls := va_recv (ws := mL G S) (q0 := 0) (ci := 3) hK.1 hW rfl (wl_at (by omega))
