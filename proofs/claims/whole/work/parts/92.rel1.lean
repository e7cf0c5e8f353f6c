/-! calls that change nothing but a peer's own cells -/
theorem RC_congr {C M C' M' : SS} {rc nc : Nat} (h : RC C M rc nc) (e1 : ∀ b, C'.1 139 b = C.1 139 b) (e2 : ∀ r, r < 40 → C'.2 141 r = C.2 141 r) (e3 : ∀ n, n < 16 → C'.1 142 n = C.1 142 n) (e4 : ∀ b, C'.1 121 b = C.1 121 b)
    (f1 : ∀ b, M'.1 0 b = M.1 0 b) (f2 : ∀ r, r < 40 → M'.2 1 r = M.2 1 r) (f3 : ∀ n, n < 16 → M'.1 2 n = M.1 2 n) (f4 : ∀ a, 5 ≤ a → a ≤ 8 → M'.1 a 672 = M.1 a 672) : RC C' M' rc nc := by
  obtain ⟨⟨a1, a2, a3, a4, a5, a6⟩, b1, b2, b3, b4, b5, b6⟩ := h
  refine ⟨⟨by rw [f1]; exact a1, by rw [e1]; exact a2, by rw [f1]; exact a3, by rw [e1]; exact a4, by rw [f1]; exact a5, a6⟩, fun r hr => by rw [e2 r hr, f2 r hr]; exact b1 r hr, fun r h1 hr => by rw [f2 r hr]; exact b2 r h1 hr, fun n hn => by rw [e1, f3 n hn]; exact b3 n hn, fun n h1 hn => by rw [f3 n hn]; exact b4 n h1 hn, fun n hn => by rw [e3 n hn]; exact b5 n hn, ?_⟩
  rw [e4, e4, e4, f4 5 (by omega) (by omega), f4 6 (by omega) (by omega), f4 7 (by omega) (by omega), f4 8 (by omega) (by omega)]
  exact b6
theorem RMk_congr {C M C' M' : SS} {r : Nat} (h : RMk C M r) (e0 : C'.1 (3 * r) 0 = C.1 (3 * r) 0) (e1 : ∀ b, b < 48 → C'.2 (3 * r + 2) b = C.2 (3 * r + 2) b) (f1 : ∀ b, 48 * r ≤ b → b < 48 * r + 48 → M'.2 9 b = M.2 9 b) : RMk C' M' r := by
  intro n w h1 h2 h3 ha
  rw [e0] at ha
  rw [e1 _ (by omega), f1 _ (by omega) (by omega)]
  exact h n w h1 h2 h3 ha
theorem RBi_congr {C M C' M' : SS} {r : Nat} (h : RBi C M r) (e0 : C'.1 (3 * r) 0 = C.1 (3 * r) 0) (e1 : ∀ n, n < 16 → C'.1 142 n = C.1 142 n) (f1 : ∀ n, n < 16 → M'.1 3 n = M.1 3 n) : RBi C' M' r := by
  intro n hn ha
  rw [e0] at ha
  rw [e1 n hn, f1 n hn]
  exact h n hn ha
theorem RR_peer {C M C' M' : SS} {rc nc : Nat} (h : RR C M rc nc) (e1 : ∀ a b, a < 129 → C'.1 a b = C.1 a b) (e2 : ∀ a b, a < 129 → C'.2 a b = C.2 a b) (e3 : ∀ a b, 139 ≤ a → C'.1 a b = C.1 a b) (e4 : ∀ a b, 139 ≤ a → C'.2 a b = C.2 a b)
    (f1 : ∀ a b, a ≤ 9 → M'.1 a b = M.1 a b) (f2 : ∀ a b, a ≤ 9 → M'.2 a b = M.2 a b) (hP : ∀ i, i < 2 → RP C' M' rc i) : RR C' M' rc nc := by
  have h40 := h.1.1.2.2.2.2.2.2.1
  refine ⟨RC_congr h.1 (fun b => e3 _ _ (by omega)) (fun r _ => e4 _ _ (by omega)) (fun n _ => e3 _ _ (by omega)) (fun b => e1 _ _ (by omega)) (fun b => f1 _ _ (by omega)) (fun b _ => f2 _ _ (by omega)) (fun b _ => f1 _ _ (by omega)) (fun a _ _ => f1 _ _ (by omega)), hP, fun r hr => ⟨?_, ?_, ?_⟩, fun i hi => ?_⟩
  · exact RT_congr (Nat.le_refl _) (h.2.2.1 r hr).1 (e1 _ _ (by omega)) (f1 _ _ (by omega)) (fun n w _ _ => e1 _ _ (by omega)) (fun n k _ _ _ => f1 _ _ (by omega))
  · exact RMk_congr (h.2.2.1 r hr).2.1 (e1 _ _ (by omega)) (fun b _ => e2 _ _ (by omega)) (fun b _ _ => f2 _ _ (by omega))
  · exact RBi_congr (h.2.2.1 r hr).2.2 (e1 _ _ (by omega)) (fun n _ => e3 _ _ (by omega)) (fun n _ => f1 _ _ (by omega))
  · exact RT_congr (Nat.le_refl _) (h.2.2.2 i hi) (e1 _ _ (by omega)) (f1 _ _ (by omega)) (fun n w _ _ => e1 _ _ (by omega)) (fun n k _ _ _ => f1 _ _ (by omega))
/-- decide -/
theorem e_decide (nc : Nat) (x y z w : Int32) : cdDecide nc x y z w = mcDecide nc x y z w := by
  unfold cdDecide mcDecide
  have hw : inM w (-1) (nI 1) = true ↔ (w = 0 ∨ w = nI 1 ∨ w = -1) := by
    unfold inM
    constructor
    · intro h
      by_cases h1 : w < -1
      · rw [if_pos h1] at h; cases h
      · rw [if_neg h1] at h
        by_cases h2 : nI 1 < w
        · rw [if_pos h2] at h; cases h
        · have a1 : ¬ w.toInt < -1 := fun z => h1 (Int32.lt_iff_toInt_lt.mpr z)
          have a2 : ¬ (1 : Int) < w.toInt := fun z => h2 (Int32.lt_iff_toInt_lt.mpr (by rw [nI_toInt (by decide)]; exact z))
          rcases (show w.toInt = 0 ∨ w.toInt = 1 ∨ w.toInt = -1 by omega) with e | e | e
          · exact Or.inl (Int32.toInt_inj.mp e)
          · exact Or.inr (Or.inl (Int32.toInt_inj.mp (by rw [e]; rfl)))
          · exact Or.inr (Or.inr (Int32.toInt_inj.mp e))
    · rintro (rfl | rfl | rfl) <;> decide
  by_cases h1 : isP x = true
  · rw [if_pos h1, if_pos h1]
    by_cases h2 : inB y nc = true
    · rw [if_pos h2, if_pos h2]
      by_cases h3 : inB z 3 = true
      · rw [if_pos h3, if_pos h3]
        by_cases h4 : w = 0 ∨ w = nI 1 ∨ w = -1
        · rw [if_pos h4, if_pos (hw.mpr h4)]
        · rw [if_neg h4, if_neg (fun q => h4 (hw.mp q))]
          split <;> rfl
      · rw [if_neg h3, if_neg h3]
        split <;> rfl
    · rw [if_neg h2, if_neg h2]
  · rw [if_neg h1, if_neg h1]
theorem p_decide {C M : SS} {rc nc : Nat} (h : RR C M rc nc) {x y z w : Int32} (hc : cdDecide nc x y z w = 0) : RR (s1 C (131 + 5 * cn x) (cn y * 3 + cn z) w) (s1 M 12 (48 * cn x + 3 * cn y + cn z) w) rc nc := by
  unfold cdDecide at hc
  obtain ⟨h1, hc⟩ := ite_ne0 (by omega) hc
  obtain ⟨h2, hc⟩ := ite_ne0 (by omega) hc
  obtain ⟨h3, hc⟩ := ite_ne1 (by omega) hc
  obtain ⟨h4, hc⟩ := ite_ne0 (by omega) hc
  obtain ⟨h5, hc⟩ := ite_ne0 (by omega) hc
  have hi := (isP_cn h1).1
  have h16 := h.1.1.2.2.2.2.2.2.2.2
  have hy := (inB_cn (by omega) h2).1
  have hz := (inB_cn (by omega) h4).1
  generalize cn x = i at hi ⊢
  generalize cn y = n at hy ⊢
  generalize cn z = k at hz ⊢
  refine RR_peer h (fun a b ha => s1_o _ _ _ _ (by omega)) (fun a b ha => rfl) (fun a b ha => s1_o _ _ _ _ (by omega)) (fun a b ha => rfl) (fun a b ha => s1_o _ _ _ _ (by omega)) (fun a b ha => rfl) (fun j hj => ?_)
  obtain ⟨p1, p2, p3, p4, p5, p6, c, pc, p7, p8, p9⟩ := h.2.1 j hj
  refine ⟨p1, ?_, ?_, ?_, p5, fun q hq => ?_, c, pc, ?_, ?_, fun q hq => ?_⟩
  · rw [s1_o _ _ _ _ (by omega), s1_o _ _ _ _ (by omega)]; exact p2
  · rw [s1_o _ _ _ _ (by omega), s1_o _ _ _ _ (by omega)]; exact p3
  · rw [s1_o _ _ _ _ (by omega), s1_o _ _ _ _ (by omega)]; exact p4
  · rw [s1_at, s1_at]
    by_cases e : j = i ∧ q = n * 3 + k
    · obtain ⟨rfl, rfl⟩ := e
      rw [if_pos ⟨rfl, rfl⟩, if_pos (by omega)]
      exact ⟨rfl, by rcases h5 with h5 | h5 | h5 <;> simp [h5, nI_0]⟩
    · rw [if_neg (by omega), if_neg (by omega)]; exact p6 q hq
  · rw [s1_o _ _ _ _ (by omega)]; exact p7
  · rw [s1_o _ _ _ _ (by omega)]; exact p8
  · rw [s1_o _ _ _ _ (by omega), s1_o _ _ _ _ (by omega), s1_o _ _ _ _ (by omega), s1_o _ _ _ _ (by omega)]; exact p9 q hq
/-- bury -/
theorem p_bury {C M : SS} {rc nc : Nat} (h : RR C M rc nc) {x y : Int32} {d : Bool} (hc : cdBury nc x y = 0) : RR (doBury C (cn x) (cn y) d) (mdBury M (cn x) (cn y) d) rc nc := by
  unfold cdBury at hc
  obtain ⟨h1, hc⟩ := ite_ne0 (by omega) hc
  have hi := (isP_cn h1).1
  have key : ∀ (i : Nat) (v : Int32), i < 2 → RR (s1 C (129 + 5 * i) 6 v) (s1 M 13 i v) rc nc := by
    intro i v hi
    refine RR_peer h (fun a b ha => s1_o _ _ _ _ (by omega)) (fun a b ha => rfl) (fun a b ha => s1_o _ _ _ _ (by omega)) (fun a b ha => rfl) (fun a b ha => s1_o _ _ _ _ (by omega)) (fun a b ha => rfl) (fun j hj => ?_)
    obtain ⟨p1, p2, p3, p4, p5, p6, c, pc, p7, p8, p9⟩ := h.2.1 j hj
    refine ⟨p1, ?_, ?_, ?_, p5, fun q hq => ?_, c, pc, ?_, ?_, fun q hq => ?_⟩
    · rw [s1_o _ _ _ _ (by omega), s1_o _ _ _ _ (by omega)]; exact p2
    · rw [s1_at, s1_at]
      by_cases e : j = i
      · subst e; rw [if_pos ⟨rfl, rfl⟩, if_pos ⟨rfl, rfl⟩]
      · rw [if_neg (by omega), if_neg (by omega)]; exact p3
    · rw [s1_o _ _ _ _ (by omega), s1_o _ _ _ _ (by omega)]; exact p4
    · rw [s1_o _ _ _ _ (by omega), s1_o _ _ _ _ (by omega)]; exact p6 q hq
    · rw [s1_o _ _ _ _ (by omega)]; exact p7
    · rw [s1_o _ _ _ _ (by omega)]; exact p8
    · rw [s1_o _ _ _ _ (by omega), s1_o _ _ _ _ (by omega), s1_o _ _ _ _ (by omega), s1_o _ _ _ _ (by omega)]; exact p9 q hq
  unfold doBury mdBury
  rw [(h.2.1 (cn x) hi).2.2.1]
  split
  · exact key _ _ hi
  · exact key _ _ hi
theorem p_trust {C M : SS} {rc nc : Nat} (h : RR C M rc nc) {x y : Int32} {d : Bool} (hc : cdTrust x y = 0) : RR (doTrust C (cn x) (cn y) d) (mdTrust M (cn x) (cn y) d) rc nc := by
  unfold cdTrust at hc
  obtain ⟨h1, hc⟩ := ite_ne0 (by omega) hc
  have hi := (isP_cn h1).1
  have key : ∀ (i : Nat) (v : Int32), i < 2 → RR (s1 C (129 + 5 * i) 2 v) (s1 M 15 i v) rc nc := by
    intro i v hi
    refine RR_peer h (fun a b ha => s1_o _ _ _ _ (by omega)) (fun a b ha => rfl) (fun a b ha => s1_o _ _ _ _ (by omega)) (fun a b ha => rfl) (fun a b ha => s1_o _ _ _ _ (by omega)) (fun a b ha => rfl) (fun j hj => ?_)
    obtain ⟨p1, p2, p3, p4, p5, p6, c, pc, p7, p8, p9⟩ := h.2.1 j hj
    refine ⟨p1, ?_, ?_, ?_, p5, fun q hq => ?_, c, pc, ?_, ?_, fun q hq => ?_⟩
    · rw [s1_at, s1_at]
      by_cases e : j = i
      · subst e; rw [if_pos ⟨rfl, rfl⟩, if_pos ⟨rfl, rfl⟩]
      · rw [if_neg (by omega), if_neg (by omega)]; exact p2
    · rw [s1_o _ _ _ _ (by omega), s1_o _ _ _ _ (by omega)]; exact p3
    · rw [s1_o _ _ _ _ (by omega), s1_o _ _ _ _ (by omega)]; exact p4
    · rw [s1_o _ _ _ _ (by omega), s1_o _ _ _ _ (by omega)]; exact p6 q hq
    · rw [s1_o _ _ _ _ (by omega)]; exact p7
    · rw [s1_o _ _ _ _ (by omega)]; exact p8
    · rw [s1_o _ _ _ _ (by omega), s1_o _ _ _ _ (by omega), s1_o _ _ _ _ (by omega), s1_o _ _ _ _ (by omega)]; exact p9 q hq
  unfold doTrust mdTrust
  rw [(h.2.1 (cn x) hi).2.1]
  split
  · exact key _ _ hi
  · exact key _ _ hi
theorem a_trust {C M : SS} {rc nc : Nat} (h : RR C M rc nc) {x y : Int32} (hc : cdTrust x y = 0) : ti (C.1 (129 + 5 * cn x) 2) (cn y) = ti (M.1 15 (cn x)) (cn y) := by
  unfold cdTrust at hc
  obtain ⟨h1, hc⟩ := ite_ne0 (by omega) hc
  rw [(h.2.1 (cn x) (isP_cn h1).1).2.1]
/-- certify -/
theorem e_certify {C M : SS} {rc nc : Nat} (h : RR C M rc nc) (x y z w : Int32) : cdCertify C rc x y z w = mcCertify M rc x y z w := by
  unfold cdCertify mcCertify
  refine if_of (fun h1 => ?_) (fun _ => rfl)
  rw [R_held h (isP_cn h1).1]
theorem cd_certify {C : SS} {rc : Nat} {x y z w : Int32} (hc : cdCertify C rc x y z w = 0) : isP x = true ∧ heldB C rc (cn x) y = true ∧ inB z 4 = true ∧ inB w 3 = true := by
  unfold cdCertify at hc
  obtain ⟨h1, hc⟩ := ite_ne0 (by omega) hc
  obtain ⟨h2, hc⟩ := ite_ne0 (by omega) hc
  obtain ⟨h3, hc⟩ := ite_ne0 (by omega) hc
  obtain ⟨h4, hc⟩ := ite_ne0 (by omega) hc
  exact ⟨h1, h2, h3, h4⟩
theorem a_certify {C M : SS} {rc nc : Nat} (h : RR C M rc nc) {x y z w : Int32} (hc : cdCertify C rc x y z w = 0) : C.2 (130 + 5 * cn x) (cn z * 3 + cn w) = M.2 14 (12 * cn x + 3 * cn z + cn w) := by
  obtain ⟨h1, h2, h3, h4⟩ := cd_certify hc
  have hz := (inB_cn (by omega) h3).1
  have hw := (inB_cn (by omega) h4).1
  rw [(h.2.1 (cn x) (isP_cn h1).1).2.2.2.2.1 _ (by omega)]
  exact congrArg _ (by omega)
theorem p_certify {C M : SS} {rc nc : Nat} (h : RR C M rc nc) {x y z w : Int32} (hc : cdCertify C rc x y z w = 0) :
    RR (s2 C (130 + 5 * cn x) (cn z * 3 + cn w) (C.2 (130 + 5 * cn x) (cn z * 3 + cn w) ||| b64 (cn y))) (s2 M 14 (12 * cn x + 3 * cn z + cn w) (M.2 14 (12 * cn x + 3 * cn z + cn w) ||| b64 (cn y))) rc nc := by
  rw [← a_certify h hc]
  obtain ⟨h1, h2, h3, h4⟩ := cd_certify hc
  have hz := (inB_cn (by omega) h3).1
  have hw := (inB_cn (by omega) h4).1
  have hi := (isP_cn h1).1
  generalize C.2 (130 + 5 * cn x) (cn z * 3 + cn w) ||| b64 (cn y) = v
  generalize cn x = i at hi ⊢
  generalize cn z = n at hz ⊢
  generalize cn w = k at hw ⊢
  refine RR_peer h (fun a b ha => rfl) (fun a b ha => s2_o _ _ _ _ (by omega)) (fun a b ha => rfl) (fun a b ha => s2_o _ _ _ _ (by omega)) (fun a b ha => rfl) (fun a b ha => s2_o _ _ _ _ (by omega)) (fun j hj => ?_)
  obtain ⟨p1, p2, p3, p4, p5, p6, p7⟩ := h.2.1 j hj
  refine ⟨?_, p2, p3, p4, fun q hq => ?_, p6, p7⟩
  · rw [s2_o _ _ _ _ (by omega), s2_o _ _ _ _ (by omega)]; exact p1
  · rw [s2_at, s2_at]
    by_cases e : j = i ∧ q = n * 3 + k
    · obtain ⟨rfl, rfl⟩ := e
      rw [if_pos ⟨rfl, rfl⟩, if_pos (by omega)]
    · rw [if_neg (by omega), if_neg (by omega)]; exact p5 q hq
/-- has, ancestors, nodes, marks, about, conflict -/
theorem a_has {C M : SS} {rc nc : Nat} (h : RR C M rc nc) {x : Int32} (hc : cdHas x = 0) : C.2 (129 + 5 * cn x) 0 = M.2 10 (cn x) := by
  unfold cdHas at hc
  obtain ⟨h1, hc⟩ := ite_ne0 (by omega) hc
  exact (h.2.1 (cn x) (isP_cn h1).1).1
theorem a_anc {C M : SS} {rc nc : Nat} (h : RR C M rc nc) {x : Int32} (hc : cdAnc rc x = 0) : C.2 141 (cn x) = M.2 1 (cn x) := by
  unfold cdAnc at hc
  obtain ⟨h1, hc⟩ := ite_ne0 (by omega) hc
  have h40 := h.1.1.2.2.2.2.2.2.1
  have := (inB_cn (by omega) h1).1
  exact h.1.2.1 _ (by omega)
theorem e_nodes {C M : SS} {rc nc : Nat} (h : RR C M rc nc) (x y : Int32) : cdNodes C rc x y = mcNodes M rc x y := by
  unfold cdNodes mcNodes
  refine if_of (fun h1 => ?_) (fun _ => rfl)
  rw [R_held h (isP_cn h1).1]
theorem a_nodes {C M : SS} {rc nc : Nat} (h : RR C M rc nc) {x y : Int32} (hc : cdNodes C rc x y = 0) : anNodes C x y = maNodes M x y := by
  have h40 := h.1.1.2.2.2.2.2.2.1
  unfold cdNodes at hc
  obtain ⟨h1, hc⟩ := ite_ne0 (by omega) hc
  have hi := (isP_cn h1).1
  unfold anNodes maNodes
  by_cases hy : y = -1
  · subst hy
    rw [if_pos rfl, if_pos m1_lt]
    by_cases hb : C.1 (129 + 5 * cn x) 4 = -1
    · rw [if_pos hb, if_neg ((R_base h hi).mp hb)]
    · rw [if_neg hb, if_pos (Classical.byContradiction fun z => hb ((R_base h hi).mpr z)), (h.2.2.2 (cn x) hi).1]
  · rw [if_neg hy] at hc
    obtain ⟨h2, hc⟩ := ite_ne0 (by omega) hc
    obtain ⟨h3, h4, _⟩ := heldB_cn h40 h2
    rw [if_neg hy, h4, if_neg (nI_pos (by omega)), cn_nI (by omega), (h.2.2.1 (cn y) h3).1.1]
theorem e_marks {C M : SS} {rc nc : Nat} (h : RR C M rc nc) (x y z : Int32) : cdMarks C rc x y z = mcMarks M rc x y z := by
  have h40 := h.1.1.2.2.2.2.2.2.1
  unfold cdMarks mcMarks
  refine if_of (fun h1 => ?_) (fun _ => rfl)
  rw [R_alive (h.2.2.1 (cn x) (inB_cn (by omega) h1).1).1]
  refine if_of (fun h2 => ?_) (fun _ => rfl)
  repeat' split
  all_goals rfl
theorem a_marks {C M : SS} {rc nc : Nat} (h : RR C M rc nc) {x y z : Int32} (hc : cdMarks C rc x y z = 0) : C.2 (3 * cn x + 2) (cn y * 3 + cn z) = M.2 9 (48 * cn x + 3 * cn y + cn z) := by
  have h40 := h.1.1.2.2.2.2.2.2.1
  unfold cdMarks at hc
  obtain ⟨h1, hc⟩ := ite_ne0 (by omega) hc
  obtain ⟨h2, hc⟩ := ite_ne0 (by omega) hc
  obtain ⟨h3, hc⟩ := ite_ne1 (by omega) hc
  obtain ⟨h4, hc⟩ := ite_ne0 (by omega) hc
  obtain ⟨b1, b2, b3⟩ := aliveB_cn h2
  refine (h.2.2.1 (cn x) (inB_cn (by omega) h1).1).2.1 (cn y) (cn z) ?_ b1 (inB_cn (by omega) h4).1 b3
  rcases Nat.eq_zero_or_pos (cn y) with e | e
  · rw [e] at b2; exact absurd b2 h3
  · exact e
theorem e_about {C M : SS} {rc nc : Nat} (h : RR C M rc nc) (x y z : Int32) : cdAbout C rc x y z = mcAbout M rc x y z := by
  have h40 := h.1.1.2.2.2.2.2.2.1
  unfold cdAbout mcAbout
  refine if_of (fun h1 => ?_) (fun _ => rfl)
  rw [R_alive (h.2.2.1 (cn x) (inB_cn (by omega) h1).1).1]
theorem dP_nI {x y : Nat} (hx : x < 16) (hy : y < 10) : dP (nI (x * 10 + y)) = nI x := by
  unfold dP
  rw [if_neg (m1_ne (by omega)), pk_div (by omega) (by omega) (by omega)]
  congr 1; omega
theorem dN_nI {x y : Nat} (hx : x < 16) (hy : y < 10) : dN (nI (x * 10 + y)) = nI y := by
  unfold dN
  rw [if_neg (m1_ne (by omega)), pk_rem (by omega) (by omega) (by omega)]
  congr 1; omega
/-- the parent and the name of a node that is alive -/
theorem R_place {C M : SS} {nc t u : Nat} (h : RT C M nc t u) {n : Nat} (hn : n < 16) (ha : ti (C.1 (3 * t) 0) n = true) : dP (C.1 (3 * t + 1) (n * 3)) = M.1 5 (16 * u + n) ∧ dN (C.1 (3 * t + 1) (n * 3)) = M.1 6 (16 * u + n) := by
  obtain ⟨_, h0, h1, h2, h3, h4, h5, h6⟩ := h
  rcases Nat.eq_zero_or_pos n with e | e
  · subst e
    obtain ⟨a1, a2, a3⟩ := h2
    rw [a1]
    exact ⟨a2.symm, a3.symm⟩
  · obtain ⟨x, y, hx, hy, e1, e2, e3, _⟩ := h4 n e hn ha
    rw [e1, dP_nI hx hy, dN_nI hx hy]
    exact ⟨e2.symm, e3.symm⟩
theorem a_about {C M : SS} {rc nc : Nat} (h : RR C M rc nc) {x y z : Int32} (hc : cdAbout C rc x y z = 0) : anAbout C (cn x) (cn y) (cn z) = maAbout M (cn x) (cn y) (cn z) := by
  have h40 := h.1.1.2.2.2.2.2.2.1
  unfold cdAbout at hc
  obtain ⟨h1, hc⟩ := ite_ne0 (by omega) hc
  obtain ⟨h2, hc⟩ := ite_ne0 (by omega) hc
  obtain ⟨h3, hc⟩ := ite_ne0 (by omega) hc
  obtain ⟨b1, b2, b3⟩ := aliveB_cn h2
  obtain ⟨t1, t2, t3⟩ := h.2.2.1 (cn x) (inB_cn (by omega) h1).1
  have hz := (inB_cn (by omega) h3).1
  generalize cn z = k at hz ⊢
  rcases (show k = 0 ∨ k = 1 ∨ k = 2 ∨ k = 3 ∨ k = 4 ∨ k = 5 by omega) with rfl | rfl | rfl | rfl | rfl | rfl
  · exact (R_place t1 b1 b3).1
  · exact (R_place t1 b1 b3).2
  · exact (t1.2.2.2.2.1 (cn y) b1 b3).1
  · exact (t1.2.2.2.2.1 (cn y) b1 b3).2
  · exact t3 (cn y) b1 b3
  · show bI (ti (C.1 139 6) (cn y)) = if M.1 2 (cn y) = 0 then nI 0 else nI 1
    rw [h.1.2.2.2.1 (cn y) b1]
    by_cases e : M.1 2 (cn y) = 0
    · rw [if_pos e, e]; rfl
    · rw [if_neg e]
      have : (M.1 2 (cn y) == 0) = false := by simp [e]
      rw [this]; rfl
theorem e_conflict (c : Nat) (x y z : Int32) : cdConflict c x y z = mcConflict c x y z := by
  unfold cdConflict mcConflict
  have hz : (inB z 2 = true) ↔ (z = nI 0 ∨ z = nI 1) := by
    rw [inB_iff (by omega)]
    constructor
    · rintro ⟨j, hj, rfl⟩
      rcases (show j = 0 ∨ j = 1 by omega) with rfl | rfl
      · exact Or.inl rfl
      · exact Or.inr rfl
    · rintro (h | h)
      · exact ⟨0, by omega, h⟩
      · exact ⟨1, by omega, h⟩
  refine if_of (fun h1 => if_of (fun h2 => ?_) (fun _ => rfl)) (fun _ => rfl)
  by_cases h0 : z = nI 0
  · rw [if_pos h0, if_pos (hz.mpr (Or.inl h0))]
  · rw [if_neg h0]
    exact if_of2 ⟨fun q => hz.mpr (Or.inr q), fun q => (hz.mp q).resolve_left h0⟩ (fun _ => rfl) (fun _ => rfl)
theorem a_conflict {C M : SS} {rc nc : Nat} (h : RR C M rc nc) {lc : Nat → Nat} (hl : ∀ i, i < 2 → lc i ≤ 45 ∧ C.1 (129 + 5 * i) 9 = nI (lc i)) {x y z : Int32} (hc : cdConflict (lc (cn x)) x y z = 0) :
    (if z = nI 0 then C.1 (132 + 5 * cn x) (cn y) else C.1 (133 + 5 * cn x) (cn y)) = (if z = 0 then M.1 17 (64 * cn x + cn y) else M.1 18 (64 * cn x + cn y)) := by
  unfold cdConflict at hc
  obtain ⟨h1, hc⟩ := ite_ne0 (by omega) hc
  obtain ⟨h2, hc⟩ := ite_ne0 (by omega) hc
  have hi := (isP_cn h1).1
  obtain ⟨c, hc1, hc2, hc3, hc4⟩ := (h.2.1 (cn x) hi).2.2.2.2.2.2
  have ec : c = lc (cn x) := by
    have := (hl (cn x) hi).2
    rw [hc2] at this
    exact (nI_eq (by omega) (by have := (hl (cn x) hi).1; omega)).mp this
  have hy := (inB_cn (by have := (hl (cn x) hi).1; omega) h2).1
  obtain ⟨q1, q2⟩ := hc4 (cn y) (by omega)
  rw [q1, q2, nI_0]
