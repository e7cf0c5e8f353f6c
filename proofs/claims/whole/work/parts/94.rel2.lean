/-! open, add, drop, move, write -/
theorem cfS_1o (S : SS) (t u : Nat) {a b : Nat} (h : a ≠ 3 * t ∧ a ≠ 3 * t + 1) : (cfS S t u).1 a b = S.1 a b := by rw [cfS_1 S t u h.1 h.2]
theorem cfS_2o (S : SS) (t u : Nat) {a b : Nat} (h : a ≠ 3 * t + 2) : (cfS S t u).2 a b = S.2 a b := by rw [cfS_2a, if_neg (fun z => h z.1)]
theorem cfS_1v (S : SS) (t u : Nat) {b : Nat} (h : b < 48) : (cfS S t u).1 (3 * t + 1) b = S.1 (3 * u + 1) b := by
  rw [cfS_1a, if_neg (show ¬ (3 * t + 1 = 3 * t ∧ b = 0) by omega), if_pos ⟨rfl, h⟩]
theorem cfS_10 (S : SS) (t u : Nat) : (cfS S t u).1 (3 * t) 0 = S.1 (3 * u) 0 := by rw [cfS_1a, if_pos ⟨rfl, rfl⟩]
theorem mct_1o {f t : Nat} (S : SS) (hft : f ≠ t) {a b : Nat} (h : ¬ (a = 4 ∧ b = t) ∧ ¬ ((5 ≤ a ∧ a ≤ 8) ∧ 16 * t ≤ b ∧ b < 16 * t + 16)) : (mct S f t).1 a b = S.1 a b := by rw [mct_1 S hft, if_neg h.1, if_neg h.2]
theorem mct_2o {f t : Nat} (S : SS) (hft : f ≠ t) {a b : Nat} (h : ¬ (a = 9 ∧ 48 * t ≤ b ∧ b < 48 * t + 48)) : (mct S f t).2 a b = S.2 a b := by rw [mct_2 S hft, if_neg h]
theorem mct_14 {f t : Nat} (S : SS) (hft : f ≠ t) : (mct S f t).1 4 t = S.1 4 f := by rw [mct_1 S hft, if_pos ⟨rfl, rfl⟩]
theorem mct_1v {f t : Nat} (S : SS) (hft : f ≠ t) {n k : Nat} (hn : n < 16) (h5 : 5 ≤ k) (h8 : k ≤ 8) : (mct S f t).1 k (16 * t + n) = S.1 k (16 * f + n) := by
  rw [mct_1 S hft, if_neg (show ¬ (k = 4 ∧ 16 * t + n = t) by omega), if_pos (by omega)]
  exact congrArg _ (by omega)
theorem e_open {C M : SS} {rc nc : Nat} (h : RR C M rc nc) (x y : Int32) : cdOpen C rc x y = mcOpen M rc x y := by
  unfold cdOpen mcOpen
  refine if_of (fun h1 => ?_) (fun _ => rfl)
  rw [R_held h (isP_cn h1).1]
/-- a peer's own cells are as they were but for the base -/
theorem RP_base {C M C' M' : SS} {rc rc' i j r : Nat} (hp : RP C M rc j) (hrc : rc ≤ rc') (hr : r < rc')
    (e1 : ∀ a b, 129 ≤ a → a < 139 → ¬ (a = 129 + 5 * i ∧ b = 4) → C'.1 a b = C.1 a b) (e2 : ∀ a b, 129 ≤ a → a < 139 → C'.2 a b = C.2 a b) (e3 : C'.1 (129 + 5 * i) 4 = nI r)
    (f1 : ∀ a b, 10 ≤ a → ¬ (a = 11 ∧ b = i) → M'.1 a b = M.1 a b) (f2 : ∀ a b, 10 ≤ a → M'.2 a b = M.2 a b) (f3 : M'.1 11 i = nI r) (hj : j < 2) : RP C' M' rc' j := by
  obtain ⟨p1, p2, p3, p4, p5, p6, c, pc, p7, p8, p9⟩ := hp
  refine ⟨?_, ?_, ?_, ?_, fun k hk => ?_, fun q hq => ?_, c, pc, ?_, ?_, fun q hq => ?_⟩
  · rw [e2 _ _ (by omega) (by omega), f2 _ _ (by omega)]; exact p1
  · rw [e1 _ _ (by omega) (by omega) (by omega), f1 _ _ (by omega) (by omega)]; exact p2
  · rw [e1 _ _ (by omega) (by omega) (by omega), f1 _ _ (by omega) (by omega)]; exact p3
  · by_cases e : j = i
    · subst e; rw [e3, f3]; exact ⟨rfl, Or.inr ⟨r, hr, rfl⟩⟩
    · rw [e1 _ _ (by omega) (by omega) (by omega), f1 _ _ (by omega) (by omega)]
      exact ⟨p4.1, p4.2.imp id (fun ⟨b, hb, eb⟩ => ⟨b, by omega, eb⟩)⟩
  · rw [e2 _ _ (by omega) (by omega), f2 _ _ (by omega)]; exact p5 k hk
  · rw [e1 _ _ (by omega) (by omega) (by omega), f1 _ _ (by omega) (by omega)]; exact p6 q hq
  · rw [e1 _ _ (by omega) (by omega) (by omega)]; exact p7
  · rw [f1 _ _ (by omega) (by omega)]; exact p8
  · rw [e1 _ _ (by omega) (by omega) (by omega), e1 _ _ (by omega) (by omega) (by omega), f1 _ _ (by omega) (by omega), f1 _ _ (by omega) (by omega)]; exact p9 q hq
theorem p_open {C M : SS} {rc nc : Nat} (h : RR C M rc nc) {x y : Int32} (hc : cdOpen C rc x y = 0) : RR (s1 (cfS C (41 + cn x) (cn y)) (129 + 5 * cn x) 4 (nI (cn y))) (s1 (mct M (cn y) (40 + cn x)) 11 (cn x) (nI (cn y))) rc nc := by
  have h40 := h.1.1.2.2.2.2.2.2.1
  unfold cdOpen at hc
  obtain ⟨h1, hc⟩ := ite_ne0 (by omega) hc
  obtain ⟨h2, hc⟩ := ite_ne0 (by omega) hc
  have hi := (isP_cn h1).1
  have hr := (heldB_cn h40 h2).1
  clear hc h2
  generalize cn x = i at hi ⊢
  generalize cn y = r at hr ⊢
  have hft : r ≠ 40 + i := by omega
  refine ⟨RC_congr h.1 (fun b => ?_) (fun q _ => ?_) (fun n _ => ?_) (fun b => ?_) (fun b => ?_) (fun q _ => ?_) (fun n _ => ?_) (fun a _ _ => ?_), fun j hj => ?_, fun q hq => ⟨?_, ?_, ?_⟩, fun j hj => ?_⟩
  · rw [s1_o _ _ _ _ (by omega), cfS_1o _ _ _ (by omega)]
  · rw [s1_2, cfS_2o _ _ _ (by omega)]
  · rw [s1_o _ _ _ _ (by omega), cfS_1o _ _ _ (by omega)]
  · rw [s1_o _ _ _ _ (by omega), cfS_1o _ _ _ (by omega)]
  · rw [s1_o _ _ _ _ (by omega), mct_1o _ hft (by omega)]
  · rw [s1_2, mct_2o _ hft (by omega)]
  · rw [s1_o _ _ _ _ (by omega), mct_1o _ hft (by omega)]
  · rw [s1_o _ _ _ _ (by omega), mct_1o _ hft (by omega)]
  · refine RP_base (i := i) (h.2.1 j hj) (Nat.le_refl _) hr (fun a b h1 h2 h3 => ?_) (fun a b h1 h2 => ?_) (s1_h _ _ _ _) (fun a b h1 h2 => ?_) (fun a b h1 => ?_) (s1_h _ _ _ _) hj
    · rw [s1_o _ _ _ _ h3, cfS_1o _ _ _ (by omega)]
    · rw [s1_2, cfS_2o _ _ _ (by omega)]
    · rw [s1_o _ _ _ _ h2, mct_1o _ hft (by omega)]
    · rw [s1_2, mct_2o _ hft (by omega)]
  · refine RT_congr (Nat.le_refl _) (h.2.2.1 q hq).1 ?_ ?_ (fun n w _ _ => ?_) (fun n k _ _ _ => ?_)
    · rw [s1_o _ _ _ _ (by omega), cfS_1o _ _ _ (by omega)]
    · rw [s1_o _ _ _ _ (by omega), mct_1o _ hft (by omega)]
    · rw [s1_o _ _ _ _ (by omega), cfS_1o _ _ _ (by omega)]
    · rw [s1_o _ _ _ _ (by omega), mct_1o _ hft (by omega)]
  · refine RMk_congr (h.2.2.1 q hq).2.1 ?_ (fun b _ => ?_) (fun b _ _ => ?_)
    · rw [s1_o _ _ _ _ (by omega), cfS_1o _ _ _ (by omega)]
    · rw [s1_2, cfS_2o _ _ _ (by omega)]
    · rw [s1_2, mct_2o _ hft (by omega)]
  · refine RBi_congr (h.2.2.1 q hq).2.2 ?_ (fun n _ => ?_) (fun n _ => ?_)
    · rw [s1_o _ _ _ _ (by omega), cfS_1o _ _ _ (by omega)]
    · rw [s1_o _ _ _ _ (by omega), cfS_1o _ _ _ (by omega)]
    · rw [s1_o _ _ _ _ (by omega), mct_1o _ hft (by omega)]
  · by_cases e : j = i
    · subst e
      refine RT_congr (Nat.le_refl _) (h.2.2.1 r hr).1 ?_ ?_ (fun n w _ _ => ?_) (fun n k _ _ _ => ?_)
      · rw [s1_o _ _ _ _ (by omega), cfS_10]
      · rw [s1_o _ _ _ _ (by omega), mct_14 _ hft]
      · rw [s1_o _ _ _ _ (by omega), cfS_1v _ _ _ (by omega)]
      · rw [s1_o _ _ _ _ (by omega), mct_1v _ hft (by omega) (by omega) (by omega)]
    · refine RT_congr (Nat.le_refl _) (h.2.2.2 j hj) ?_ ?_ (fun n w _ _ => ?_) (fun n k _ _ _ => ?_)
      · rw [s1_o _ _ _ _ (by omega), cfS_1o _ _ _ (by omega)]
      · rw [s1_o _ _ _ _ (by omega), mct_1o _ hft (by omega)]
      · rw [s1_o _ _ _ _ (by omega), cfS_1o _ _ _ (by omega)]
      · rw [s1_o _ _ _ _ (by omega), mct_1o _ hft (by omega)]
/-- calls that change one workspace alone -/
theorem RR_ws {C M C' M' : SS} {rc nc nc' i : Nat} (h : RR C M rc nc) (hnc : nc ≤ nc') (hi : i < 2) (hRC : RC C' M' rc nc')
    (e1 : ∀ a b, a < 139 → a ≠ 3 * (41 + i) → a ≠ 3 * (41 + i) + 1 → C'.1 a b = C.1 a b) (e1' : ∀ b, C'.1 142 b = C.1 142 b) (e2 : C'.2 = C.2)
    (f1 : ∀ a b, 10 ≤ a → M'.1 a b = M.1 a b) (f2 : M'.2 = M.2) (f3 : ∀ u, u ≠ 40 + i → M'.1 4 u = M.1 4 u) (f4 : ∀ u n a, u ≠ 40 + i → n < 16 → 5 ≤ a → a ≤ 8 → M'.1 a (16 * u + n) = M.1 a (16 * u + n)) (f5 : ∀ n, n < nc → M'.1 3 n = M.1 3 n)
    (hT : RT C' M' nc' (41 + i) (40 + i)) : RR C' M' rc nc' := by
  have h40 := h.1.1.2.2.2.2.2.2.1
  refine ⟨hRC, fun j hj => ?_, fun q hq => ⟨?_, ?_, ?_⟩, fun j hj => ?_⟩
  · obtain ⟨p1, p2, p3, p4, p5, p6, c, pc, p7, p8, p9⟩ := h.2.1 j hj
    refine ⟨?_, ?_, ?_, ?_, fun k hk => ?_, fun q hq => ?_, c, pc, ?_, ?_, fun q hq => ?_⟩
    · rw [e2, f2]; exact p1
    · rw [e1 _ _ (by omega) (by omega) (by omega), f1 _ _ (by omega)]; exact p2
    · rw [e1 _ _ (by omega) (by omega) (by omega), f1 _ _ (by omega)]; exact p3
    · rw [e1 _ _ (by omega) (by omega) (by omega), f1 _ _ (by omega)]; exact p4
    · rw [e2, f2]; exact p5 k hk
    · rw [e1 _ _ (by omega) (by omega) (by omega), f1 _ _ (by omega)]; exact p6 q hq
    · rw [e1 _ _ (by omega) (by omega) (by omega)]; exact p7
    · rw [f1 _ _ (by omega)]; exact p8
    · rw [e1 _ _ (by omega) (by omega) (by omega), e1 _ _ (by omega) (by omega) (by omega), f1 _ _ (by omega), f1 _ _ (by omega)]; exact p9 q hq
  · exact RT_congr hnc (h.2.2.1 q hq).1 (e1 _ _ (by omega) (by omega) (by omega)) (f3 _ (by omega)) (fun n w _ _ => e1 _ _ (by omega) (by omega) (by omega)) (fun n k hn h5 h8 => f4 q n k (by omega) hn h5 h8)
  · exact RMk_congr (h.2.2.1 q hq).2.1 (e1 _ _ (by omega) (by omega) (by omega)) (fun b _ => by rw [e2]) (fun b _ _ => by rw [f2])
  · intro n hn ha
    rw [e1 _ _ (by omega) (by omega) (by omega)] at ha
    rw [e1', f5 n ((h.2.2.1 q hq).1.2.2.1 n hn ha)]
    exact (h.2.2.1 q hq).2.2 n hn ha
  · by_cases e : j = i
    · subst e; exact hT
    · exact RT_congr hnc (h.2.2.2 j hj) (e1 _ _ (by omega) (by omega) (by omega)) (f3 _ (by omega)) (fun n w _ _ => e1 _ _ (by omega) (by omega) (by omega)) (fun n k hn h5 h8 => f4 (40 + j) n k (by omega) hn h5 h8)
/-- the first questions of add, drop, move, write -/
theorem R_ws {C M : SS} {rc nc : Nat} (h : RR C M rc nc) {x : Int32} {A B : Nat} (hAB : isP x = true → A = B) : (if isP x = true then (if C.1 (129 + 5 * cn x) 4 = -1 then 3 else A) else 1) = (if isP x = true then (if 0 ≤ M.1 11 (cn x) then B else 3) else 1) := by
  refine if_of (fun h1 => ?_) (fun _ => rfl)
  have := R_base h (isP_cn h1).1
  by_cases hb : C.1 (129 + 5 * cn x) 4 = -1
  · rw [if_pos hb, if_neg (this.mp hb)]
  · rw [if_neg hb, if_pos (Classical.byContradiction fun z => hb (this.mpr z))]; exact hAB h1
theorem R_dir {C M : SS} {rc nc : Nat} (h : RR C M rc nc) {n : Nat} (hn : n < 16) : ti (C.1 139 6) n = true ↔ ¬ M.1 2 n = 0 := by
  rw [h.1.2.2.2.1 n hn]
  simp
theorem e_add {C M : SS} {rc nc : Nat} (h : RR C M rc nc) (x y z : Int32) : cdAdd C nc x y z = mcAdd M nc x y z := by
  unfold cdAdd mcAdd
  refine R_ws h (fun h1 => ?_)
  have ht := h.2.2.2 (cn x) (isP_cn h1).1
  rw [R_alive ht]
  refine if_of (fun h2 => ?_) (fun _ => rfl)
  rw [← R_alive ht] at h2
  obtain ⟨b1, b2, b3⟩ := aliveB_cn h2
  have hd := R_dir h b1
  by_cases q1 : M.1 2 (cn y) = 0
  · rw [if_pos q1, if_neg (fun z => hd.mp z.1 q1)]
  · rw [if_neg q1]
    refine if_of2 ⟨fun z => z.2, fun z => ⟨hd.mpr q1, z⟩⟩ (fun q2 => ?_) (fun _ => rfl)
    have hk := inB_cn (by omega) q2.2
    refine if_of2 ?_ (fun _ => ?_) (fun _ => rfl)
    · rw [R_free ht b1 hk.1, ← b2, ← hk.2]
    · have := h.1.1.2.2.2.2.2.2.2.2
      by_cases q3 : nc < 16
      · rw [if_pos q3, if_neg (by omega)]
      · rw [if_neg q3, if_pos (by omega)]
theorem cd_ws {C : SS} {x : Int32} {A : Nat} (hc : (if isP x = true then (if C.1 (129 + 5 * cn x) 4 = -1 then 3 else A) else 1) = 0) : isP x = true ∧ A = 0 := by
  obtain ⟨h1, hc⟩ := ite_ne0 (by omega) hc
  obtain ⟨h2, hc⟩ := ite_ne1 (by omega) hc
  exact ⟨h1, hc⟩
theorem plantS_1 (S : SS) (t n : Nat) (x : Int32) (a b : Nat) : (plantS S t n x).1 a b = if a = 3 * t ∧ b = 0 then S.1 (3 * t) 0 ||| (nI 1 <<< (nI n &&& 31)) else if a = 3 * t + 1 ∧ b = n * 3 then x else if a = 3 * t + 1 ∧ (b = n * 3 + 1 ∨ b = n * 3 + 2) then nI 0 else S.1 a b := by
  unfold plantS
  rw [s1_at, s1_at, s1_at, s1_at]
  repeat' split
  all_goals first | rfl | (exfalso; omega)
theorem plantS_2 (S : SS) (t n : Nat) (x : Int32) : (plantS S t n x).2 = S.2 := rfl
theorem mdAdd_1 (S : SS) (nc i p k : Nat) (d : Bool) (a b : Nat) : (mdAdd S nc i p k d).1 a b =
    if a = 0 ∧ b = 3 then nI (nc + 1) else if a = 2 ∧ b = nc then bI d else if a = 3 ∧ b = nc then -1 else if a = 4 ∧ b = 40 + i then S.1 4 (40 + i) ||| (nI 1 <<< (nI nc &&& 31)) else if a = 5 ∧ b = 16 * (40 + i) + nc then nI p
    else if a = 6 ∧ b = 16 * (40 + i) + nc then nI k else if (a = 7 ∨ a = 8) ∧ b = 16 * (40 + i) + nc then nI 0 else S.1 a b := by
  unfold mdAdd
  rw [bI_vn]
  simp only [s1_at]
  repeat' split
  all_goals first | rfl | (exfalso; omega)
theorem mdAdd_2 (S : SS) (nc i p k : Nat) (d : Bool) : (mdAdd S nc i p k d).2 = S.2 := rfl
theorem doAdd_1 (S : SS) (nc i p k : Nat) (d : Bool) (hi : i < 2) (a b : Nat) : (doAdd S nc i p k d).1 a b =
    if a = 3 * (41 + i) ∧ b = 0 then S.1 (3 * (41 + i)) 0 ||| (nI 1 <<< (nI nc &&& 31)) else if a = 3 * (41 + i) + 1 ∧ b = nc * 3 then nI (p * 10 + k) else if a = 3 * (41 + i) + 1 ∧ (b = nc * 3 + 1 ∨ b = nc * 3 + 2) then nI 0
    else if a = 139 ∧ b = 7 then nI (nc + 1) else if a = 139 ∧ b = 6 ∧ d = true then S.1 139 6 ||| (nI 1 <<< (nI nc &&& 31)) else S.1 a b := by
  unfold doAdd
  cases d with
  | true =>
    rw [if_pos rfl, plantS_1]
    simp only [s1_at]
    have : (True : Prop) := trivial
    repeat' split
    all_goals first | rfl | (exfalso; omega) | (exfalso; simp_all; done) | (exfalso; simp_all; omega)
  | false =>
    rw [if_neg (by decide), plantS_1]
    simp only [s1_at]
    repeat' split
    all_goals first | rfl | (exfalso; omega) | (exfalso; simp_all; done) | (exfalso; simp_all; omega)
theorem doAdd_2 (S : SS) (nc i p k : Nat) (d : Bool) : (doAdd S nc i p k d).2 = S.2 := by
  unfold doAdd
  split <;> rfl
