/-! THE WORLDS. A store: ints and longs by cell and place. The class: 143 cells (tree t: object 3t, values 3t+1, marks 3t+2, t < 43: 0..39 the revisions' trees, 40 merged, 41 and 42 the workspaces; peer i: object 129+5i, certificates, decisions, listedNodes, listedKinds; 139 the object, 140 trees, 141 older, 142 births). The reference: 20 cells. -/
abbrev SS : Type := (Nat → Nat → Int32) × (Nat → Nat → Int64)
def s1 (S : SS) (k j : Nat) (x : Int32) : SS := (fun a => if a = k then upd (S.1 k) j x else S.1 a, S.2)
def s2 (S : SS) (k j : Nat) (x : Int64) : SS := (S.1, fun a => if a = k then vp_updL (S.2 k) j x else S.2 a)
def wl (ad : Nat → Nat) (E : Nat → va_E) (n : Nat) : va_W := (List.range n).map (fun k => (ad k, E k))
theorem wl_at {ad : Nat → Nat} {E : Nat → va_E} {n k : Nat} (h : k < n) : (wl ad E n)[k]? = some (ad k, E k) := by
  simp [wl, h]
theorem wl_get {ad : Nat → Nat} {E : Nat → va_E} {n k : Nat} {q : Nat × va_E} (h : (wl ad E n)[k]? = some q) : k < n ∧ q = (ad k, E k) := by
  have hk : k < n := by
    have := (List.getElem?_eq_some_iff.mp h).1
    simpa [wl] using this
  rw [wl_at hk] at h
  exact ⟨hk, (Option.some.inj h).symm⟩
theorem wl_set {ad : Nat → Nat} {E : Nat → va_E} {n k : Nat} {e : va_E} (h : k < n) : (wl ad E n).set k (ad k, e) = wl ad (va_up E k e) n := by
  apply List.ext_getElem?
  intro i
  by_cases hi : i < n
  · by_cases hik : i = k
    · subst hik
      rw [List.getElem?_set_self (by simpa [wl] using hi), wl_at hi, va_up_self]
    · rw [List.getElem?_set_ne (Ne.symm hik), wl_at hi, wl_at hi, va_up_ne _ _ hik]
  · rw [List.getElem?_eq_none (by simp [wl]; omega), List.getElem?_eq_none (by simp [wl]; omega)]
/-- where things are: the classes' numbers and slots; the cells' addresses; the classes of arrays (0 int, 1 long, 2 boolean, 3 Tree); 0 and 1: the cells lie in this range; 2: what lies below was there before the law -/
abbrev GT : Type := va_G × (Nat → Nat) × (Nat → ClassId) × (Nat → Nat)
abbrev gD (G : GT) : va_G := G.1
abbrev gA (G : GT) : Nat → Nat := G.2.1
abbrev gC (G : GT) : Nat → ClassId := G.2.2.1
abbrev gN (G : GT) : Nat → Nat := G.2.2.2
abbrev gT (G : GT) : List (ClassId × FieldType) := [(gC G 0, .int), (gC G 1, .long), (gC G 2, .boolean), (gC G 3, .object "MarkedTrees$Tree")]
def gOk (n : Nat) (G : GT) : Prop := (∀ i j : Nat, i < n → j < n → gA G i = gA G j → i = j) ∧ (∀ i : Nat, i < n → gN G 0 ≤ gA G i ∧ gA G i < gN G 1) ∧ gN G 2 ≤ gN G 0
/-- the cells that a method of this world may change, from a heap of this size on -/
def gF (G : GT) (sz : Nat) : Nat → Prop := fun q => (gN G 0 ≤ q ∧ q < gN G 1) ∨ sz ≤ q
theorem gF_new {G : GT} {sz : Nat} : ∀ q : Nat, sz ≤ q → gF G sz q := fun _ h => Or.inr h
theorem gF_up {G : GT} {a b : Nat} (h : a ≤ b) : ∀ q : Nat, gF G b q → gF G a q := fun _ hq => hq.elim Or.inl (fun z => Or.inr (Nat.le_trans h z))
theorem wl_D {n : Nat} {G : GT} {E : Nat → va_E} {sz : Nat} (h : gOk n G) : va_D (gF G sz) (wl (gA G) E n) := by
  refine ⟨fun i j p q hi hj e => ?_, fun k q hk => ?_⟩
  · obtain ⟨h1, rfl⟩ := wl_get hi
    obtain ⟨h2, rfl⟩ := wl_get hj
    exact h.1 i j h1 h2 e
  · obtain ⟨h1, rfl⟩ := wl_get hk
    exact Or.inl (h.2.1 k h1)
/-- a cell of the class -/
def cX (G : GT) (k : Nat) (f : Nat → Int32) (g : Nat → Int64) : va_E :=
  if k < 129 then
    if k % 3 = 0 then .inr (1, [.int (f 0), .ref (gA G (k + 1)), .ref (gA G (k + 2))])
    else if k % 3 = 1 then .inl (gC G 0, 48, .inl f) else .inl (gC G 1, 48, .inr (.inl g))
  else if k < 139 then
    if (k - 129) % 5 = 0 then .inr (0, [.long (g 0), .ref (gA G (k + 1)), .int (f 2), .ref (gA G (123 + (k - 129) / 5 * 3)), .int (f 4), .ref (gA G (k + 2)), .int (f 6), .ref (gA G (k + 3)), .ref (gA G (k + 4)), .int (f 9)])
    else if (k - 129) % 5 = 1 then .inl (gC G 1, 12, .inr (.inl g)) else .inl (gC G 0, 48, .inl f)
  else if k = 139 then .inr (2, [.ref (gA G 129), .ref (gA G 134), .ref (gA G 140), .ref (gA G 141), .int (f 4), .ref (gA G 142), .int (f 6), .int (f 7), .ref (gA G 120), .long (g 9)])
  else if k = 140 then .inl (gC G 3, 40, .inr (.inr (.inr (.inr (fun j => some (gA G (3 * j)))))))
  else if k = 141 then .inl (gC G 1, 40, .inr (.inl g))
  else .inl (gC G 0, 16, .inl f)
abbrev cL (G : GT) (S : SS) : va_W := wl (gA G) (fun k => cX G k (S.1 k) (S.2 k)) 143
def cW (G : GT) (S : SS) (H : Heap) : Prop := va_P (gD G) vwCl (cL G S) H
/-- a cell of the reference: 0 the object; 1 ancestors, 2 directory, 3 birth, 4 alive, 5 parent, 6 name, 7 content, 8 attribute, 9 marks, 10 have, 11 base, 12 decided, 13 buried, 14 certificates, 15 trusted, 16 listed, 17 listedNode, 18 listedKind, 19 open -/
def mX (G : GT) (k : Nat) (f : Nat → Int32) (g : Nat → Int64) : va_E := match k with
  | 0 => .inr (3, [.int (f 0), .int (f 1), .ref (gA G 1), .int (f 3), .ref (gA G 2), .ref (gA G 3), .ref (gA G 4), .ref (gA G 5), .ref (gA G 6), .ref (gA G 7), .ref (gA G 8), .ref (gA G 9), .ref (gA G 10), .ref (gA G 11), .ref (gA G 12), .ref (gA G 13), .ref (gA G 14), .ref (gA G 15), .ref (gA G 16), .ref (gA G 17), .ref (gA G 18), .ref (gA G 19)])
  | 1 => .inl (gC G 1, 40, .inr (.inl g))
  | 2 => .inl (gC G 2, 16, .inl f)
  | 3 => .inl (gC G 0, 16, .inl f)
  | 4 => .inl (gC G 0, 43, .inl f)
  | 5 => .inl (gC G 0, 688, .inl f)
  | 6 => .inl (gC G 0, 688, .inl f)
  | 7 => .inl (gC G 0, 688, .inl f)
  | 8 => .inl (gC G 0, 688, .inl f)
  | 9 => .inl (gC G 1, 2064, .inr (.inl g))
  | 10 => .inl (gC G 1, 2, .inr (.inl g))
  | 11 => .inl (gC G 0, 2, .inl f)
  | 12 => .inl (gC G 0, 96, .inl f)
  | 13 => .inl (gC G 0, 2, .inl f)
  | 14 => .inl (gC G 1, 24, .inr (.inl g))
  | 15 => .inl (gC G 0, 2, .inl f)
  | 16 => .inl (gC G 0, 2, .inl f)
  | 17 => .inl (gC G 0, 128, .inl f)
  | 18 => .inl (gC G 0, 128, .inl f)
  | _ => .inl (gC G 0, 16, .inl f)
abbrev mL (G : GT) (S : SS) : va_W := wl (gA G) (fun k => mX G k (S.1 k) (S.2 k)) 20
def mW (G : GT) (S : SS) (H : Heap) : Prop := va_P (gD G) vwCl (mL G S) H
theorem s1_E {X : Nat → (Nat → Int32) → (Nat → Int64) → va_E} (S : SS) (k j : Nat) (x : Int32) : va_up (fun a => X a (S.1 a) (S.2 a)) k (X k (upd (S.1 k) j x) (S.2 k)) = fun a => X a ((s1 S k j x).1 a) ((s1 S k j x).2 a) := by
  funext a
  unfold va_up s1
  by_cases h : a = k
  · subst h; simp
  · simp [h]
theorem s2_E {X : Nat → (Nat → Int32) → (Nat → Int64) → va_E} (S : SS) (k j : Nat) (x : Int64) : va_up (fun a => X a (S.1 a) (S.2 a)) k (X k (S.1 k) (vp_updL (S.2 k) j x)) = fun a => X a ((s2 S k j x).1 a) ((s2 S k j x).2 a) := by
  funext a
  unfold va_up s2
  by_cases h : a = k
  · subst h; simp
  · simp [h]
theorem cL_s1 (G : GT) (S : SS) {k : Nat} (hk : k < 143) (j : Nat) (x : Int32) {e : va_E} (he : cX G k (upd (S.1 k) j x) (S.2 k) = e) : (cL G S).set k (gA G k, e) = cL G (s1 S k j x) := by
  rw [wl_set hk, ← he, s1_E]
theorem cL_s2 (G : GT) (S : SS) {k : Nat} (hk : k < 143) (j : Nat) (x : Int64) {e : va_E} (he : cX G k (S.1 k) (vp_updL (S.2 k) j x) = e) : (cL G S).set k (gA G k, e) = cL G (s2 S k j x) := by
  rw [wl_set hk, ← he, s2_E]
theorem mL_s1 (G : GT) (S : SS) {k : Nat} (hk : k < 20) (j : Nat) (x : Int32) {e : va_E} (he : mX G k (upd (S.1 k) j x) (S.2 k) = e) : (mL G S).set k (gA G k, e) = mL G (s1 S k j x) := by
  rw [wl_set hk, ← he, s1_E]
theorem mL_s2 (G : GT) (S : SS) {k : Nat} (hk : k < 20) (j : Nat) (x : Int64) {e : va_E} (he : mX G k (S.1 k) (vp_updL (S.2 k) j x) = e) : (mL G S).set k (gA G k, e) = mL G (s2 S k j x) := by
  rw [wl_set hk, ← he, s2_E]
/-! the class's cells, kind by kind -/
theorem cX_T (G : GT) {t : Nat} (ht : t < 43) (f : Nat → Int32) (g : Nat → Int64) : cX G (3 * t) f g = .inr (1, [.int (f 0), .ref (gA G (3 * t + 1)), .ref (gA G (3 * t + 2))]) := by
  unfold cX
  rw [if_pos (by omega), if_pos (by omega)]
theorem cX_V (G : GT) {t : Nat} (ht : t < 43) (f : Nat → Int32) (g : Nat → Int64) : cX G (3 * t + 1) f g = .inl (gC G 0, 48, .inl f) := by
  unfold cX
  rw [if_pos (by omega), if_neg (by omega), if_pos (by omega)]
theorem cX_M (G : GT) {t : Nat} (ht : t < 43) (f : Nat → Int32) (g : Nat → Int64) : cX G (3 * t + 2) f g = .inl (gC G 1, 48, .inr (.inl g)) := by
  unfold cX
  rw [if_pos (by omega), if_neg (by omega), if_neg (by omega)]
theorem cX_P (G : GT) {i : Nat} (hi : i < 2) (f : Nat → Int32) (g : Nat → Int64) : cX G (129 + 5 * i) f g = .inr (0, [.long (g 0), .ref (gA G (130 + 5 * i)), .int (f 2), .ref (gA G (3 * (41 + i))), .int (f 4), .ref (gA G (131 + 5 * i)), .int (f 6), .ref (gA G (132 + 5 * i)), .ref (gA G (133 + 5 * i)), .int (f 9)]) := by
  unfold cX
  rw [if_neg (by omega), if_pos (by omega), if_pos (by omega)]
  rw [show 129 + 5 * i + 1 = 130 + 5 * i by omega, show 129 + 5 * i + 2 = 131 + 5 * i by omega, show 129 + 5 * i + 3 = 132 + 5 * i by omega, show 129 + 5 * i + 4 = 133 + 5 * i by omega, show 123 + (129 + 5 * i - 129) / 5 * 3 = 3 * (41 + i) by omega]
theorem cX_C (G : GT) {i : Nat} (hi : i < 2) (f : Nat → Int32) (g : Nat → Int64) : cX G (130 + 5 * i) f g = .inl (gC G 1, 12, .inr (.inl g)) := by
  unfold cX
  rw [if_neg (by omega), if_pos (by omega), if_neg (by omega), if_pos (by omega)]
theorem cX_D (G : GT) {i : Nat} (hi : i < 2) (f : Nat → Int32) (g : Nat → Int64) : cX G (131 + 5 * i) f g = .inl (gC G 0, 48, .inl f) := by
  unfold cX
  rw [if_neg (by omega), if_pos (by omega), if_neg (by omega), if_neg (by omega)]
theorem cX_N (G : GT) {i : Nat} (hi : i < 2) (f : Nat → Int32) (g : Nat → Int64) : cX G (132 + 5 * i) f g = .inl (gC G 0, 48, .inl f) := by
  unfold cX
  rw [if_neg (by omega), if_pos (by omega), if_neg (by omega), if_neg (by omega)]
theorem cX_K (G : GT) {i : Nat} (hi : i < 2) (f : Nat → Int32) (g : Nat → Int64) : cX G (133 + 5 * i) f g = .inl (gC G 0, 48, .inl f) := by
  unfold cX
  rw [if_neg (by omega), if_pos (by omega), if_neg (by omega), if_neg (by omega)]
/-! where a cell of the class stands -/
theorem cw_T {G : GT} {S : SS} {t : Nat} (ht : t < 43) : (cL G S)[3 * t]? = some (gA G (3 * t), .inr (1, [.int (S.1 (3 * t) 0), .ref (gA G (3 * t + 1)), .ref (gA G (3 * t + 2))])) := by
  rw [wl_at (by omega), cX_T G ht]
theorem cw_V {G : GT} {S : SS} {t : Nat} (ht : t < 43) : (cL G S)[3 * t + 1]? = some (gA G (3 * t + 1), .inl (gC G 0, 48, .inl (S.1 (3 * t + 1)))) := by
  rw [wl_at (by omega), cX_V G ht]
theorem cw_M {G : GT} {S : SS} {t : Nat} (ht : t < 43) : (cL G S)[3 * t + 2]? = some (gA G (3 * t + 2), .inl (gC G 1, 48, .inr (.inl (S.2 (3 * t + 2))))) := by
  rw [wl_at (by omega), cX_M G ht]
theorem cw_P {G : GT} {S : SS} {i : Nat} (hi : i < 2) : (cL G S)[129 + 5 * i]? = some (gA G (129 + 5 * i), .inr (0, [.long (S.2 (129 + 5 * i) 0), .ref (gA G (130 + 5 * i)), .int (S.1 (129 + 5 * i) 2), .ref (gA G (3 * (41 + i))), .int (S.1 (129 + 5 * i) 4), .ref (gA G (131 + 5 * i)), .int (S.1 (129 + 5 * i) 6), .ref (gA G (132 + 5 * i)), .ref (gA G (133 + 5 * i)), .int (S.1 (129 + 5 * i) 9)])) := by
  rw [wl_at (by omega), cX_P G hi]
theorem cw_C {G : GT} {S : SS} {i : Nat} (hi : i < 2) : (cL G S)[130 + 5 * i]? = some (gA G (130 + 5 * i), .inl (gC G 1, 12, .inr (.inl (S.2 (130 + 5 * i))))) := by
  rw [wl_at (by omega), cX_C G hi]
theorem cw_D {G : GT} {S : SS} {i : Nat} (hi : i < 2) : (cL G S)[131 + 5 * i]? = some (gA G (131 + 5 * i), .inl (gC G 0, 48, .inl (S.1 (131 + 5 * i)))) := by
  rw [wl_at (by omega), cX_D G hi]
theorem cw_N {G : GT} {S : SS} {i : Nat} (hi : i < 2) : (cL G S)[132 + 5 * i]? = some (gA G (132 + 5 * i), .inl (gC G 0, 48, .inl (S.1 (132 + 5 * i)))) := by
  rw [wl_at (by omega), cX_N G hi]
theorem cw_K {G : GT} {S : SS} {i : Nat} (hi : i < 2) : (cL G S)[133 + 5 * i]? = some (gA G (133 + 5 * i), .inl (gC G 0, 48, .inl (S.1 (133 + 5 * i)))) := by
  rw [wl_at (by omega), cX_K G hi]
theorem cw_O {G : GT} {S : SS} : (cL G S)[139]? = some (gA G 139, .inr (2, [.ref (gA G 129), .ref (gA G 134), .ref (gA G 140), .ref (gA G 141), .int (S.1 139 4), .ref (gA G 142), .int (S.1 139 6), .int (S.1 139 7), .ref (gA G 120), .long (S.2 139 9)])) := by
  rw [wl_at (by omega)]; rfl
theorem cw_R {G : GT} {S : SS} : (cL G S)[140]? = some (gA G 140, .inl (gC G 3, 40, .inr (.inr (.inr (.inr (fun j => some (gA G (3 * j)))))))) := by
  rw [wl_at (by omega)]; rfl
theorem cw_A {G : GT} {S : SS} : (cL G S)[141]? = some (gA G 141, .inl (gC G 1, 40, .inr (.inl (S.2 141)))) := by
  rw [wl_at (by omega)]; rfl
theorem cw_B {G : GT} {S : SS} : (cL G S)[142]? = some (gA G 142, .inl (gC G 0, 16, .inl (S.1 142))) := by
  rw [wl_at (by omega)]; rfl
