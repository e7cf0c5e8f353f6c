/-! CONSTRUCTORS: worlds as lists, until all is made -/
def iK (G : GT) (U : State) : Prop := va_K (gD G) vwCl (gT G) U ∧ va_Nw (.methodLinkNest RX1 23 yX2_slot "MarkedTrees") U ∧ va_AO "MarkedTrees$Tree" U
theorem iK.same {G : GT} {u U : State} (hv : U.vm = u.vm) (h : iK G u) : iK G U := by
  have al : u.vm.Alike U.vm := by rw [hv]; exact Vm.Alike.refl _
  exact ⟨va_K.moved al h.1, va_Nw.same rfl hv.symm h.2.1, h.2.2.moved al⟩
theorem iK.warm {G : GT} {s U : State} (hW : s.WarmedH U.vm) (h : iK G s) : iK G U := ⟨va_K.moved hW.alike h.1, va_Nw.warmM hW h.2.1, h.2.2.moved hW.alike⟩
theorem va_RA_inj {U : State} {a b : ClassId} {ty : FieldType} (h1 : va_RA U a ty) (h2 : va_RA U b ty) : a = b := by
  cases ty with
  | object C =>
    obtain ⟨k1, c1, -, -, -, h4⟩ := h1
    obtain ⟨k2, c2, -, -, -, h5⟩ := h2
    exact Option.some.inj (h4.symm.trans h5)
  | _ => exact Option.some.inj (Eq.trans (Eq.symm h1) h2)
theorem ia_cls {G : GT} {s : State} {cA : ClassId} {ty : FieldType} (k : Nat) {c0 : ClassId} (h0 : (gT G)[k]? = some (c0, ty)) (h : va_K (gD G) vwCl (gT G ++ [(cA, ty)]) s) : cA = c0 :=
  va_RA_inj (h.2 4 (cA, ty) rfl).2 (h.2 k (c0, ty) (by
    rw [List.getElem?_append_left (List.getElem?_eq_some_iff.mp h0).1]
    exact h0)).2
theorem ip_last {D : va_G} {cl : List vw_C} {ws : va_W} {x : Nat × va_E} {H : Heap} (h : va_P D cl (ws ++ [x]) H) : va_P D cl [x] H := fun k q hk => by
  match k, hk with
  | 0, hk => exact h ws.length q (by rw [List.getElem?_append_right (Nat.le_refl _), Nat.sub_self]; exact hk)
theorem ip_init {D : va_G} {cl : List vw_C} {ws ws2 : va_W} {H : Heap} (h : va_P D cl (ws ++ ws2) H) : va_P D cl ws H := fun k q hk => h k q (by
  rw [List.getElem?_append_left (List.getElem?_eq_some_iff.mp hk).1]
  exact hk)
theorem id_init {A : Nat → Prop} {ws ws2 : va_W} (h : va_D A (ws ++ ws2)) : va_D A ws := by
  have key : ∀ (k : Nat) (q : Nat × va_E), ws[k]? = some q → (ws ++ ws2)[k]? = some q := fun k q hk => by
    rw [List.getElem?_append_left (List.getElem?_eq_some_iff.mp hk).1]
    exact hk
  exact ⟨fun i j p q hi hj e => h.1 i j p q (key i p hi) (key j q hj) e, fun k q hk => h.2 k q (key k q hk)⟩
theorem ifree {A : Nat → Prop} {ws : va_W} {q : Nat} {e : va_E} {H0 H : Heap} {locs : List Loc} (hD : va_D A (ws ++ [(q, e)])) (hS : va_S A H0 H locs) (hA : ∀ q, H0.size ≤ q → A q) : ∀ x, va_A [(q, e)] H.size x → A x := by
  intro x h
  rcases h with ⟨k, e9, h⟩ | h
  · match k, h with
    | 0, h =>
      cases h
      exact hD.2 ws.length (q, e) (by rw [List.getElem?_append_right (Nat.le_refl _), Nat.sub_self]; rfl)
  · exact hA x (Nat.le_trans hS.1 h)
theorem ijoin {A : Nat → Prop} {D : va_G} {cl : List vw_C} {ws w1 : va_W} {q : Nat} {e : va_E} {H H1 : Heap} (hP : va_P D cl (ws ++ [(q, e)]) H) (hD : va_D A (ws ++ [(q, e)]))
    (hk : ∀ x : Nat, x < H.size → ¬ va_A [(q, e)] H.size x → H1[x]? = H[x]?) (hF : ∀ x, va_A [(q, e)] H.size x → A x) (hP1 : va_P D cl w1 H1) (hD1 : va_D (va_A [(q, e)] H.size) w1) : va_P D cl (ws ++ w1) H1 ∧ va_D A (ws ++ w1) := by
  have apart : ∀ (k : Nat) (x : Nat × va_E), ws[k]? = some x → x.1 < H.size ∧ ¬ va_A [(q, e)] H.size x.1 := by
    intro k x hx
    have hl := (List.getElem?_eq_some_iff.mp hx).1
    have hlt := (ip_init hP k x hx).lt
    refine ⟨hlt, fun z => ?_⟩
    rcases z with ⟨k2, e2, h2⟩ | z
    · match k2, h2 with
      | 0, h2 =>
        have e3 : q = x.1 := congrArg Prod.fst (Option.some.inj h2)
        have := hD.1 k ws.length x (q, e) (by rw [List.getElem?_append_left hl]; exact hx) (by rw [List.getElem?_append_right (Nat.le_refl _), Nat.sub_self]; rfl) e3.symm
        omega
    · omega
  refine ⟨va_P.app (fun k x hx => (ip_init hP k x hx).kept (hk x.1 (apart k x hx).1 (apart k x hx).2)) hP1, va_D.app (id_init hD) (hD1.weaken (fun k x _ h => hF x.1 h)) (fun i j x y hx hy hxy => ?_)⟩
  exact (apart i x hx).2 (by rw [hxy]; exact hD1.2 j y hy)
abbrev iV : Nat → Int32 := upd (fun _ => 0) 0 (-1)
/-- a new tree -/
def tL (G : GT) (t a b : Nat) : va_W := [(t, .inr (1, [.int (nI 1), .ref a, .ref b])), (a, .inl (gC G 0, 48, .inl iV)), (b, .inl (gC G 1, 48, .inr (.inl (fun _ => 0))))]
abbrev tF : va_E := .inr (1, [.int 0, .null, .null])
abbrev pF : va_E := .inr (0, [.long 0, .null, .int 0, .null, .int 0, .null, .int 0, .null, .null, .int 0])
abbrev oF : va_E := .inr (2, [.null, .null, .null, .null, .int 0, .null, .int 0, .int 0, .null, .long 0])
abbrev mF0 : va_E := .inr (3, [.int 0, .int 0, .null, .int 0, .null, .null, .null, .null, .null, .null, .null, .null, .null, .null, .null, .null, .null, .null, .null, .null, .null, .null])
def fiF (x : Int32) : Nat → Nat → (Nat → Int32) → (Nat → Int32)
  | 0, _, f => f
  | n + 1, j, f => fiF x n (j + 1) (upd f j x)
/-- a new peer: itself, certificates, its workspace, listedNodes, listedKinds, decisions -/
def pL (G : GT) (p c t a b n k d : Nat) : va_W := [(p, .inr (0, [.long 1, .ref c, .int (nI 15), .ref t, .int (-1), .ref d, .int 0, .ref n, .ref k, .int 0])), (c, .inl (gC G 1, 12, .inr (.inl (fun _ => 0)))), (t, .inr (1, [.int (nI 1), .ref a, .ref b])), (a, .inl (gC G 0, 48, .inl iV)), (b, .inl (gC G 1, 48, .inr (.inl (fun _ => 0)))), (n, .inl (gC G 0, 48, .inl (fun _ => 0))), (k, .inl (gC G 0, 48, .inl (fun _ => 0))), (d, .inl (gC G 0, 48, .inl (fiF (-1) 48 0 (fun _ => 0))))]
def fL (G : GT) (d : Nat) (f : Nat → Int32) : va_W := [(d, .inl (gC G 0, 48, .inl f))]
theorem iK_blind {G : GT} {ws : va_W} {sz : Nat} {av : List Value} : FrameBlind (va_Pc av (fun U => U.heap.size = sz ∧ va_P (gD G) vwCl ws U.heap ∧ va_D (fun _ => True) ws ∧ iK G U)) := fun _ _ _ _ q => ⟨q.1, q.2.1, q.2.2.1, q.2.2.2.1, iK.same rfl q.2.2.2.2⟩
theorem iK_at {G : GT} {ws : va_W} {s : State} {H : Heap} {av : List Value} {A : Nat → Prop} (hP : va_P (gD G) vwCl ws H) (hD : va_D A ws) (hI : iK G s) : ∀ U : State, U.heap = H → s.WarmedH U.vm → va_Pc av (fun U => U.heap.size = H.size ∧ va_P (gD G) vwCl ws U.heap ∧ va_D (fun _ => True) ws ∧ iK G U) av.toArray U :=
  fun U hU hw => ⟨rfl, by rw [hU], by rw [hU]; exact hP, hD.weaken (fun _ _ _ _ => trivial), hI.warm hw⟩
theorem id_one {q : Nat} {e : va_E} : va_D (fun _ => True) [(q, e)] := ⟨fun i j p q hi hj _ => by
  match i, j, hi, hj with
  | 0, 0, _, _ => rfl, fun _ _ _ => trivial⟩
/-- Arrays.fill, of any such array -/
theorem fl_E {G : GT} {a j : Nat} {f : Nat → Int32} {x : Int32} : (fL G a f).set 0 (a, .inl (gC G 0, 48, .inl (upd f j x))) = fL G a (upd f j x) := rfl
set_option maxHeartbeats 4000000 in
set_option maxRecDepth 100000 in
theorem k_fillN (l : Launch) (G : GT) (a sz : Nat) (f : Nat → Int32) (x : Int32) : Met l yJ7_fill_53178 wsJ7_fill_53178 ({ frames := 0, cells := 0, slots := 0, locals := 0 } : Room) (va_Pc [.ref a, .int x] (fun U => U.heap.size = sz ∧ va_P (gD G) vwCl (fL G a f) U.heap ∧ va_D (fun _ => True) (fL G a f) ∧ iK G U)) (va_Qv (fun _ : Unit => True) (fun _ t => va_P (gD G) vwCl (fL G a (fiF x 48 0 f)) t.heap ∧ va_D (va_A (fL G a f) sz) (fL G a (fiF x 48 0 f))) (va_A (fL G a f) sz)) 0 0 (va_A (fL G a f) sz) := by
  refine Met.ofW (cc := cJ7_fill_53178) (maxL := 4) (ret := none) (by decide) rfl ?_
  intro p e s m args below meth c s₁ B hml hv
  obtain ⟨rfl, hsz, hP, hD0, hI⟩ := hv
  subst hsz
  have hx := B.exec
  have hb := B.bytes
  have hr := B.returns
  have hts := atoms_spec (ws := wsJ7_fill_53178) B.pre
  have hown : s.vm.findClass RJ7 = some m.cls := findClass_of_methodNamed B.named
  have hK := hI.1
  generalize hAe : va_A (fL G a f) s.heap.size = A
  have hAa : A a := by rw [← hAe]; exact Or.inl ⟨0, _, rfl⟩
  have hDA : ∀ g : Nat → Int32, va_D A (fL G a g) := fun g => ⟨fun i j p q hi hj _ => by
    match i, j, hi, hj with
    | 0, 0, _, _ => rfl, fun k q hk => by
    match k, hk with
    | 0, hk => cases hk; exact hAa⟩
  have hS : va_S A s.heap s.heap [] := va_S.rf
  have hl := lv_entry ([.ref a, .int x]) (n := 4) (Nat.le_of_ble_eq_true rfl)
  rw [lg_entry_eq]
  generalize (lg_sl ([.ref a, .int x]) ++ List.replicate (4 - (lg_sl ([.ref a, .int x])).length) Slot.unset).toArray = ls at hl ⊢
  have hl : lv_has ls 4 [(0, .ref a), (1, .int x)] := hl
  have LP : ∀ (n : Nat) (j : Nat) (g : Nat → Int32) (H : Heap) (locs : List Loc), va_P (gD G) vwCl (fL G a g) H → va_S A s.heap H locs → j + n = 48 → ∀ (ls : Array Slot), lv_has ls 4 [(0, .ref a), (1, .int x), (2, .int (nI j)), (3, .int (nI 48))] → W p l e (headSpec wsJ7_fill_53178 ({ frames := 0, cells := 0, slots := 0, locals := 0 } : Room)).room s m ([.ref a, .int x] : List Value).toArray below meth c H locs 0 0 (MQ below (va_Qv (fun _ : Unit => True) (fun _ t => va_P (gD G) vwCl (fL G a (fiF x n j g)) t.heap ∧ va_D A (fL G a (fiF x n j g))) A) ([.ref a, .int x] : List Value).toArray s 0 0 A) (F0 m 5 ls []) := by
    intro n
    induction n with
    | zero =>
      intro j g H locs hP hS h2 ls hl
      refine lv_iload_n hx hb dJ7_fill_53178_5 rfl (lv_at hl 2 rfl) ?_
      refine lv_iload_n hx hb dJ7_fill_53178_6 rfl (lv_at hl 3 rfl) ?_
      refine nv_icmp_ge (tgt := 20) hx hb (by omega) (by omega) dJ7_fill_53178_7 (by decide) (fun c_7 => ?_) (fun c_7 => ?_)
      · exact W.vret hx hb hr (fun t9 ht9 _ => ⟨⟨(), rfl, trivial, ⟨by rw [ht9]; exact hP, hDA _⟩⟩, hS.F ht9⟩) hS.2.2 dJ7_fill_53178_20
      · exact absurd c_7 (by omega)
    | succ n ih =>
      intro j g H locs hP hS h2 ls hl
      refine lv_iload_n hx hb dJ7_fill_53178_5 rfl (lv_at hl 2 rfl) ?_
      refine lv_iload_n hx hb dJ7_fill_53178_6 rfl (lv_at hl 3 rfl) ?_
      refine nv_icmp_ge (tgt := 20) hx hb (by omega) (by omega) dJ7_fill_53178_7 (by decide) (fun c_7 => ?_) (fun c_7 => ?_)
      · exact absurd c_7 (by omega)
      · refine lv_aload_n hx hb dJ7_fill_53178_10 rfl (lv_at hl 0 rfl) ?_
        refine lv_iload_n hx hb dJ7_fill_53178_11 rfl (lv_at hl 2 rfl) ?_
        refine lv_iload_n hx hb dJ7_fill_53178_12 rfl (lv_at hl 1 rfl) ?_
        refine nv_iast hx hb hK hP (hDA g) hS 0 0 rfl rfl (i := j) (by omega) (by decide) dJ7_fill_53178_13 (fun H locs hP hS => ?_)
        refine lv_iinc (v := nI (j + 1)) (lv' := [(2, .int (nI (j + 1))), (0, .ref a), (1, .int x), (3, .int (nI 48))]) hx hb dJ7_fill_53178_14 hl (k := 2) rfl (nI_add j 1) (by decide) rfl (fun ls hl => ?_)
        refine lv_goto (tgt := 5) hx hb dJ7_fill_53178_17 (by decide) ?_
        exact ih (j + 1) (upd g j x) H locs hP hS (by omega) ls (lv_sub hl [1, 2, 0, 3] rfl)
  refine lv_iconst (v := nI 0) hx hb dJ7_fill_53178_0 (by decide) ?_
  refine lv_istore_n (lv' := [(2, .int (nI 0)), (0, .ref a), (1, .int x)]) hx hb dJ7_fill_53178_1 rfl hl (by decide) rfl (fun ls hl => ?_)
  refine lv_aload_n hx hb dJ7_fill_53178_2 rfl (lv_at hl 1 rfl) ?_
  refine va_alen (v := nI 48) hx hb hK hP 0 0 rfl (ty := .int) rfl rfl dJ7_fill_53178_3 ?_
  refine lv_istore_n (lv' := [(3, .int (nI 48)), (2, .int (nI 0)), (0, .ref a), (1, .int x)]) hx hb dJ7_fill_53178_4 rfl hl (by decide) rfl (fun ls hl => ?_)
  exact LP 48 0 f s.heap [] hP hS (by omega) ls (lv_sub hl [2, 3, 1, 0] rfl)
theorem nw_i (cA : ClassId) (n : Nat) : vp_cell cA (n, .inl (fun _ => 0)) = arrV cA n (fun _ => defaultValue .int) := rfl
theorem nw_z (cA : ClassId) (n : Nat) : vp_cell cA (n, .inl (fun _ => 0)) = arrV cA n (fun _ => defaultValue .boolean) := rfl
theorem nw_l (cA : ClassId) (n : Nat) : vp_cell cA (n, .inr (.inl (fun _ => 0))) = arrV cA n (fun _ => defaultValue .long) := rfl
def iG (G : GT) (u : Nat → Nat) : GT := (gD G, u, gC G, gN G)
/-- a new object of the class -/
def cS0 : SS := (fun k => if k < 129 then (if k % 3 = 0 then fun _ => nI 1 else if k % 3 = 1 then iV else fun _ => 0)
  else if k < 139 then (if (k - 129) % 5 = 0 then (fun j => if j = 2 then nI 15 else if j = 4 then -1 else 0) else if (k - 129) % 5 = 2 then fiF (-1) 48 0 (fun _ => 0) else fun _ => 0)
  else if k = 139 then (fun j => if j = 4 ∨ j = 6 ∨ j = 7 then nI 1 else 0) else fun _ => 0,
  fun k => if k = 129 ∨ k = 134 then (fun j => if j = 0 then 1 else 0) else fun _ => 0)
/-- the first k trees -/
def tW (G : GT) (ad : Nat → Nat) (k : Nat) : va_W := wl ad (fun j => cX (iG G ad) j (cS0.1 j) (cS0.2 j)) (3 * k)
def ad3 (ad : Nat → Nat) (k q a b : Nat) : Nat → Nat := fun j => if j = 3 * k then q else if j = 3 * k + 1 then a else if j = 3 * k + 2 then b else ad j
theorem cS0_t {k : Nat} (h : k < 43) : cS0.1 (3 * k) = (fun _ => nI 1) ∧ cS0.1 (3 * k + 1) = iV ∧ cS0.2 (3 * k + 2) = (fun _ => 0) := by
  unfold cS0
  refine ⟨?_, ?_, ?_⟩
  · show (if 3 * k < 129 then _ else _) = _
    rw [if_pos (by omega), if_pos (by omega)]
  · show (if 3 * k + 1 < 129 then _ else _) = _
    rw [if_pos (by omega), if_neg (by omega), if_pos (by omega)]
  · show (if 3 * k + 2 = 129 ∨ 3 * k + 2 = 134 then _ else _) = _
    rw [if_neg (by omega)]
theorem tW_step (G : GT) (ad : Nat → Nat) {k q a b : Nat} (hk : k < 40) : tW G ad k ++ tL G q a b = tW G (ad3 ad k q a b) (k + 1) := by
  unfold tW wl
  rw [show 3 * (k + 1) = 3 * k + 1 + 1 + 1 by omega, List.range_succ, List.range_succ, List.range_succ]
  simp only [List.map_append, List.map_cons, List.map_nil, List.append_assoc, List.cons_append, List.nil_append]
  have key : ∀ j, j < 3 * k → ((ad j, cX (iG G ad) j (cS0.1 j) (cS0.2 j)) : Nat × va_E) = (ad3 ad k q a b j, cX (iG G (ad3 ad k q a b)) j (cS0.1 j) (cS0.2 j)) := by
    intro j hj
    have e1 : ∀ i, i < 3 * k → ad3 ad k q a b i = ad i := fun i hi => by
      unfold ad3
      rw [if_neg (by omega), if_neg (by omega), if_neg (by omega)]
    rw [e1 j hj]
    refine congrArg (Prod.mk (ad j)) ?_
    obtain ⟨t, ht | ht | ht⟩ : ∃ t, j = 3 * t ∨ j = 3 * t + 1 ∨ j = 3 * t + 2 := ⟨j / 3, by omega⟩ <;> subst ht
    · rw [cX_T _ (by omega), cX_T _ (by omega)]
      show _ = Sum.inr (1, [_, Value.ref (ad3 ad k q a b (3 * t + 1)), Value.ref (ad3 ad k q a b (3 * t + 2))])
      rw [e1 _ (by omega), e1 _ (by omega)]
      rfl
    · rw [cX_V _ (by omega), cX_V _ (by omega)]; rfl
    · rw [cX_M _ (by omega), cX_M _ (by omega)]; rfl
  have k1 : (List.range (3 * k)).map (fun j => ((ad j, cX (iG G ad) j (cS0.1 j) (cS0.2 j)) : Nat × va_E)) = (List.range (3 * k)).map (fun j => (ad3 ad k q a b j, cX (iG G (ad3 ad k q a b)) j (cS0.1 j) (cS0.2 j))) := List.map_congr_left (fun j hj => key j (List.mem_range.mp hj))
  rw [k1]
  congr 1
  have h0 := cS0_t (k := k) (by omega)
  have a0 : ad3 ad k q a b (3 * k) = q := if_pos rfl
  have a1 : ad3 ad k q a b (3 * k + 1) = a := by unfold ad3; rw [if_neg (by omega), if_pos rfl]
  have a2 : ad3 ad k q a b (3 * k + 2) = b := by unfold ad3; rw [if_neg (by omega), if_neg (by omega), if_pos rfl]
  rw [cX_T _ (by omega), cX_V _ (by omega), show 3 * k + 1 + 1 = 3 * k + 2 from rfl, cX_M _ (by omega), h0.1, h0.2.1, h0.2.2]
  show _ = [(ad3 ad k q a b (3 * k), Sum.inr (1, [_, Value.ref (ad3 ad k q a b (3 * k + 1)), Value.ref (ad3 ad k q a b (3 * k + 2))])), (ad3 ad k q a b (3 * k + 1), _), (ad3 ad k q a b (3 * k + 2), _)]
  rw [a0, a1, a2]
  rfl
theorem ix_mid {X T : va_W} {x : Nat × va_E} {r : va_W} {n : Nat} (h : (X ++ T).length = n) : ((X ++ T) ++ x :: r)[n]? = some x := by subst h; simp
theorem tF_step (ad : Nat → Nat) {k q a b : Nat} (hk : k < 40) : (fun j => if j < k + 1 then some (ad3 ad k q a b (3 * j)) else none) = va_up (fun j => if j < k then some (ad (3 * j)) else none) (nI k).toNatClampNeg (some q) := by
  rw [nI_clamp (by omega)]
  funext j
  unfold va_up ad3
  dsimp only
  by_cases h : j = k
  · subst h; rw [if_pos (by omega), if_pos (by omega), if_pos rfl]
  · rw [if_neg h]
    by_cases h2 : j < k
    · rw [if_pos (by omega), if_pos h2, if_neg (by omega), if_neg (by omega), if_neg (by omega)]
    · rw [if_neg (by omega), if_neg h2]
theorem tW_len (G : GT) (ad : Nat → Nat) (k : Nat) : (tW G ad k).length = 3 * k := by simp [tW, wl]
theorem mD_all {A : Nat → Prop} {G : GT} {S : SS} (h : va_D A (mL G S)) (S' : SS) : va_D A (mL G S') :=
  ⟨fun i j p q hi hj e => by
    obtain ⟨h1, rfl⟩ := wl_get hi
    obtain ⟨h2, rfl⟩ := wl_get hj
    exact h.1 i j _ _ (wl_at h1) (wl_at h2) e, fun k q hk => by
    obtain ⟨h1, rfl⟩ := wl_get hk
    exact h.2 k (gA G k, mX G k (S.1 k) (S.2 k)) (wl_at h1)⟩
def mS0 : SS := (fun k => if k = 0 then (fun j => if j = 1 ∨ j = 3 then nI 1 else 0) else fun _ => 0, fun _ _ => 0)
def mi1 : Nat → Nat → SS → SS
  | 0, _, S => S
  | n + 1, p, S => mi1 n (p + 1) (s1 (s1 (s2 S 10 p 1) 11 p (-1)) 15 p (nI 15))
def mi2 : Nat → Nat → SS → SS
  | 0, _, S => S
  | n + 1, k, S => mi2 n (k + 1) (s1 (s1 (s1 S 4 k (nI 1)) 5 (16 * k) (-1)) 6 (16 * k) (-1))
def mi3 : Nat → Nat → SS → SS
  | 0, _, S => S
  | n + 1, k, S => mi3 n (k + 1) (s1 S 12 k (-1))
def mi4 (S : SS) : SS := s1 S 2 0 (vp_nar .boolean (nI 1))
