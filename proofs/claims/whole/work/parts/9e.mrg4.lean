/-! merge as a whole -/
theorem e_merge {C M : SS} {rc nc : Nat} (h : RR C M rc nc) (x y z : Int32) : cdMerge C rc x y z = mcMerge M rc x y z := by
  have h40 := h.1.1.2.2.2.2.2.2.1
  unfold cdMerge mcMerge
  refine if_of (fun h1 => ?_) (fun _ => rfl)
  rw [R_held h (isP_cn h1).1, R_held h (isP_cn h1).1]
  refine if_of (fun h2 => if_of (fun h3 => ?_) (fun _ => rfl)) (fun _ => rfl)
  rw [← R_held h (isP_cn h1).1] at h2 h3
  have hy := (heldB_cn h40 h2).1
  have hz := (heldB_cn h40 h3).1
  rw [R_kn h (show cn z < 40 by omega) (show cn y < 40 by omega), R_kn h (show cn y < 40 by omega) (show cn z < 40 by omega)]
  have e3 : (if rc < 40 then 0 else 3) = (if rc = 40 then 3 else 0) := by
    by_cases q : rc < 40
    · rw [if_pos q, if_neg (by omega)]
    · rw [if_neg q, if_pos (by omega)]
  rw [e3]
  cases mKn M (cn z) (cn y) <;> cases mKn M (cn y) (cn z) <;> rfl
theorem cd_merge {C : SS} {rc : Nat} (h40 : rc ≤ 40) {x y z : Int32} (hc : cdMerge C rc x y z = 0) : cn x < 2 ∧ cn y < rc ∧ cn z < rc ∧ rc < 40 := by
  unfold cdMerge at hc
  obtain ⟨h1, hc⟩ := ite_ne0 (by omega) hc
  obtain ⟨h2, hc⟩ := ite_ne0 (by omega) hc
  obtain ⟨h3, hc⟩ := ite_ne0 (by omega) hc
  obtain ⟨h4, hc⟩ := ite_ne1 (by omega) hc
  obtain ⟨h5, hc⟩ := ite_ne1 (by omega) hc
  obtain ⟨h6, hc⟩ := ite_ne0 (by omega) hc
  exact ⟨(isP_cn h1).1, (heldB_cn h40 h2).1, (heldB_cn h40 h3).1, h6⟩
/-- a merged tree without a conflict is a good tree -/
theorem GM_tree {S T : SS} {nc : Nat} (hG : GM S T) (hz : ∀ m, 1 ≤ m → m < 16 → ti (S.1 120 0) m = true → ti (T.1 19 m) 0 = false ∧ pcK S m = 0) (hnc : ∀ m, m < 16 → ti (S.1 120 0) m = true → m < nc) (h5 : T.1 5 672 = -1 ∧ T.1 6 672 = -1)
    (hcc : ∀ m, m < 16 → ti (S.1 120 0) m = true → S.1 121 (m * 3 + 1) = T.1 7 (672 + m) ∧ S.1 121 (m * 3 + 2) = T.1 8 (672 + m)) : RT S T nc 40 42 := by
  have hpl : ∀ m, 1 ≤ m → m < 16 → ti (S.1 120 0) m = true → ∃ x y, x < 16 ∧ y < 10 ∧ S.1 121 (m * 3) = nI (x * 10 + y) ∧ T.1 5 (672 + m) = nI x ∧ T.1 6 (672 + m) = nI y ∧ ti (S.1 120 0) x = true := fun m q1 q2 q3 => by
    obtain ⟨x, y, hx, hy, e1, e2, e3⟩ := (hG.2.2.2 m q1 q2 q3).2.2 (hz m q1 q2 q3).1
    refine ⟨x, y, hx, hy, e1, e2, e3, ?_⟩
    have hk := (hz m q1 q2 q3).2
    unfold pcK at hk
    obtain ⟨hk1, _⟩ := ite_ne1 (by omega) hk
    have hk1' : ¬ aliveB S 40 (dP (S.1 121 (m * 3))) = false := hk1
    rw [e1, dP_nI hx hy, aliveB_nI S 40 hx] at hk1'
    cases hq : ti (S.1 120 0) x with
    | true => rfl
    | false => exact absurd hq hk1'
  refine ⟨hG.1, hG.2.1, hnc, ⟨hG.2.2.1, h5.1, h5.2⟩, hcc, hpl, fun n m q1 q2 q3 q4 q5 q6 q7 => ?_, fun n hn ha => ?_⟩
  · have low : ∀ n, 1 ≤ n → n < 16 → ti (S.1 120 0) n = true → ∀ j, 1 ≤ j → j < n → ti (S.1 120 0) j = true → S.1 121 (j * 3) ≠ S.1 121 (n * 3) := fun n k1 k2 k3 j k4 k5 k6 k7 => by
      have hk := (hz n k1 k2 k3).2
      unfold pcK at hk
      obtain ⟨_, hk⟩ := ite_ne1 (by omega) hk
      obtain ⟨hk1, _⟩ := ite_ne1 (by omega) hk
      have hk2 : lowG (fun j => ti (S.1 120 0) j && (S.1 121 (j * 3) == S.1 121 (n * 3))) 15 1 = nI n := Classical.byContradiction hk1
      rw [lowG_eq _ 15 1 n (by omega) (by omega)] at hk2
      have := hk2.2.2.2 j k4 k5
      rw [k6, k7] at this; simp at this
    have q7' : S.1 121 (n * 3) = S.1 121 (m * 3) := q7
    rcases Nat.lt_trichotomy n m with e | e | e
    · exact absurd q7' (low m q3 q4 q6 n q1 e q5)
    · exact e
    · exact absurd q7'.symm (low n q1 q2 q5 m q3 e q6)
  · apply Classical.byContradiction
    intro hno
    have hal : ∀ i, itr (fun m => cn (T.1 5 (672 + m))) i n < 16 ∧ 1 ≤ itr (fun m => cn (T.1 5 (672 + m))) i n ∧ ti (S.1 120 0) (itr (fun m => cn (T.1 5 (672 + m))) i n) = true := by
      intro i
      induction i with
      | zero =>
        refine ⟨hn, ?_, ha⟩
        rcases Nat.eq_zero_or_pos n with e | e
        · exact absurd ⟨0, e⟩ hno
        · exact e
      | succ i ih =>
        obtain ⟨i1, i2, i3⟩ := ih
        obtain ⟨x, y, hx, hy, _, e2, _, hax⟩ := hpl _ i2 i1 i3
        rw [itr_s]
        show cn (T.1 5 (672 + _)) < 16 ∧ 1 ≤ cn (T.1 5 (672 + _)) ∧ _
        rw [e2, cn_nI (by omega)]
        refine ⟨hx, ?_, hax⟩
        rcases Nat.eq_zero_or_pos x with e | e
        · refine absurd ⟨i + 1, (Up_itr _ (i + 1) n).mpr ⟨i + 1, Nat.le_refl _, ?_⟩⟩ hno
          rw [itr_s]
          show cn (T.1 5 (672 + _)) = 0
          rw [e2, cn_nI (by omega), e]
        · exact e
    have hst : ∀ m, 1 ≤ m → m < 16 → ti (S.1 120 0) m = true → dP (S.1 121 (cn (nI m) * 3)) = nI (cn (T.1 5 (672 + m))) := fun m q1 q2 q3 => by
      obtain ⟨x, y, hx, hy, e1, e2, _, _⟩ := hpl m q1 q2 q3
      rw [cn_nI (by omega), e1, dP_nI hx hy, e2, cn_nI (by omega)]
    have hit : ∀ j i, itr (fun z => dP (S.1 (3 * 40 + 1) (cn z * 3))) j (nI (itr (fun m => cn (T.1 5 (672 + m))) i n)) = nI (itr (fun m => cn (T.1 5 (672 + m))) (i + j) n) := by
      intro j
      induction j with
      | zero => intro i; rfl
      | succ j ih =>
        intro i
        rw [itr_s, ih i, show i + (j + 1) = (i + j) + 1 by omega, itr_s]
        obtain ⟨i1, i2, i3⟩ := hal (i + j)
        exact hst _ i2 i1 i3
    obtain ⟨i, i', hii, hi', e⟩ := pig 15 (fun i => itr (fun m => cn (T.1 5 (672 + m))) i n - 1) (fun i hi => by
      obtain ⟨i1, i2, _⟩ := hal i
      show _ - 1 < 15
      omega)
    have e' : itr (fun m => cn (T.1 5 (672 + m))) i n = itr (fun m => cn (T.1 5 (672 + m))) i' n := by
      have b1 := hal i
      have b2 := hal i'
      have : itr (fun m => cn (T.1 5 (672 + m))) i n - 1 = itr (fun m => cn (T.1 5 (672 + m))) i' n - 1 := e
      omega
    obtain ⟨i1, i2, i3⟩ := hal i
    have hk := (hz _ i2 i1 i3).2
    unfold pcK at hk
    obtain ⟨_, hk⟩ := ite_ne1 (by omega) hk
    obtain ⟨_, hk⟩ := ite_ne1 (by omega) hk
    obtain ⟨hk1, _⟩ := ite_ne1 (by omega) hk
    refine hk1 ((lead_iff S 40 _ 16 _).mpr ⟨i' - i - 1, by omega, fun j hj => ?_, ?_⟩)
    · have := hit (j + 1) i
      rw [itr, cn_nI (by omega)] at this
      rw [this]
      obtain ⟨j1, j2, j3⟩ := hal (i + (j + 1))
      rw [aliveB_nI S 40 j1]; exact j3
    · have := hit (i' - i - 1 + 1) i
      rw [itr, cn_nI (by omega)] at this
      rw [this, show i + (i' - i - 1 + 1) = i' by omega, e']
theorem or4 (A B a b : Int64) : ((A ||| B) ||| a) ||| b = (A ||| a) ||| (B ||| b) := by
  rw [← Int64.toBitVec_inj]
  simp only [Int64.toBitVec_or]
  apply BitVec.eq_of_getLsbD_eq
  intro i hi
  simp only [BitVec.getLsbD_or]
  cases A.toBitVec.getLsbD i <;> cases B.toBitVec.getLsbD i <;> cases a.toBitVec.getLsbD i <;> cases b.toBitVec.getLsbD i <;> rfl
theorem fillG_1 (k : Nat) (x : Int32) : ∀ (n j : Nat) (S : SS) (a c : Nat), (fillG k x n j S).1 a c = if a = k ∧ j ≤ c ∧ c < j + n then x else S.1 a c
  | 0, j, S, a, c => by rw [fillG, if_neg (by omega)]
  | n + 1, j, S, a, c => by
    rw [fillG, fillG_1 k x n (j + 1), s1_at]
    repeat' split
    all_goals first | rfl | (exfalso; omega)
theorem fillG_2 (k : Nat) (x : Int32) : ∀ (n j : Nat) (S : SS), (fillG k x n j S).2 = S.2
  | 0, _, _ => rfl
  | n + 1, j, S => by rw [fillG, fillG_2 k x n]; rfl
theorem mdcG_1 (i : Nat) : ∀ (n j : Nat) (S : SS) (a c : Nat), (mdcG i n j S).1 a c = if a = 12 ∧ 48 * i + j ≤ c ∧ c < 48 * i + j + n then -1 else S.1 a c
  | 0, j, S, a, c => by rw [mdcG, if_neg (by omega)]
  | n + 1, j, S, a, c => by
    rw [mdcG, mdcG_1 i n (j + 1), s1_at]
    repeat' split
    all_goals first | rfl | (exfalso; omega)
theorem mdcG_2 (i : Nat) : ∀ (n j : Nat) (S : SS), (mdcG i n j S).2 = S.2
  | 0, _, _ => rfl
  | n + 1, j, S => by rw [mdcG, mdcG_2 i n]; rfl
/-- the merge's new revision -/
theorem x_rev {C M : SS} {rc nc : Nat} (h : RR C M rc nc) (hr : rc < 40) {i a b : Nat} (hi : i < 2) (ha : a < rc) (hb : b < rc) (hT : RT C M nc 40 42) (hMk : ∀ n w, 1 ≤ n → n < 16 → w < 3 → ti (C.1 120 0) n = true → C.2 122 (n * 3 + w) = M.2 9 (2016 + (3 * n + w))) (hBi : ∀ n, n < 16 → ti (C.1 120 0) n = true → C.1 142 n = M.1 3 n) :
    RR (mrS (s1 (fillG (131 + 5 * i) (-1) 48 0 C) (129 + 5 * i) 6 (nI 0)) rc i 40 (((s1 (fillG (131 + 5 * i) (-1) 48 0 C) (129 + 5 * i) 6 (nI 0)).2 141 a ||| b64 a) ||| ((s1 (fillG (131 + 5 * i) (-1) 48 0 C) (129 + 5 * i) 6 (nI 0)).2 141 b ||| b64 b))) (mdcG i 48 0 (mm3 M rc i a b)) (rc + 1) nc := by
  have eC2 : (s1 (fillG (131 + 5 * i) (-1) 48 0 C) (129 + 5 * i) 6 (nI 0)).2 = C.2 := by rw [s1_2, fillG_2]
  have eC1 : ∀ x c, (s1 (fillG (131 + 5 * i) (-1) 48 0 C) (129 + 5 * i) 6 (nI 0)).1 x c = if x = 129 + 5 * i ∧ c = 6 then nI 0 else if x = 131 + 5 * i ∧ c < 48 then -1 else C.1 x c := fun x c => by
    rw [s1_at, fillG_1]
    repeat' split
    all_goals first | rfl | (exfalso; omega)
  rw [eC2]
  generalize s1 (fillG (131 + 5 * i) (-1) 48 0 C) (129 + 5 * i) 6 (nI 0) = D at eC1 eC2 ⊢
  generalize eX : (C.2 141 a ||| b64 a) ||| (C.2 141 b ||| b64 b) = X
  have c1 := fun x c => mrS_1 D rc i 40 X x c hr (by omega)
  have c2 := fun x c => mrS_2 D rc i 40 X x c hr (by omega) hi
  generalize mrS D rc i 40 X = C' at c1 c2 ⊢
  have hm1 : ∀ x c, (mdcG i 48 0 (mm3 M rc i a b)).1 x c = if x = 12 ∧ 48 * i ≤ c ∧ c < 48 * i + 48 then -1 else if x = 13 ∧ c = i then nI 0 else if x = 0 ∧ c = 1 then nI (rc + 1) else (mct M 42 rc).1 x c := fun x c => by
    rw [mdcG_1]
    unfold mm3 mm2 mm1
    rw [s1_at, s2_1, s2_1, s1_at, mct_1o _ (by omega) (by omega) (a := 0), h.1.1.2.2.1, nI_add]
    rfl
  have hm2 : ∀ x c, (mdcG i 48 0 (mm3 M rc i a b)).2 x c = if x = 10 ∧ c = i then M.2 10 i ||| b64 rc else if x = 1 ∧ c = rc then ((M.2 1 a ||| M.2 1 b) ||| b64 a) ||| b64 b else (mct M 42 rc).2 x c := fun x c => by
    rw [mdcG_2]
    unfold mm3 mm2 mm1
    rw [s1_2, s2_at, s2_at, s2_at, s1_2, mct_2o _ (by omega) (a := 10) (by omega), if_neg (show ¬ (10 = 1 ∧ i = rc) by omega), mct_2o _ (by omega) (a := 1) (b := a) (by omega), mct_2o _ (by omega) (a := 1) (b := b) (by omega)]
  generalize mdcG i 48 0 (mm3 M rc i a b) = M' at hm1 hm2 ⊢
  have hft : (42 : Nat) ≠ rc := by omega
  have C1o : ∀ x c, x ≠ 3 * rc → x ≠ 3 * rc + 1 → ¬ (x = 139 ∧ c = 4) → ¬ (x = 129 + 5 * i ∧ c = 6) → x ≠ 131 + 5 * i → C'.1 x c = C.1 x c := fun x c q1 q2 q3 q4 q5 => by
    rw [c1, if_neg (fun z => q1 z.1), if_neg (fun z => q2 z.1), if_neg q3, eC1, if_neg q4, if_neg (fun z => q5 z.1)]
  have C2o : ∀ x c, x ≠ 3 * rc + 2 → ¬ (x = 129 + 5 * i ∧ c = 0) → ¬ (x = 141 ∧ c = rc) → C'.2 x c = C.2 x c := fun x c q1 q2 q3 => by
    rw [c2, if_neg q2, if_neg (fun z => q1 z.1), if_neg q3, eC2]
  have M1o : ∀ x c, ¬ (x = 12 ∧ 48 * i ≤ c ∧ c < 48 * i + 48) → ¬ (x = 13 ∧ c = i) → ¬ (x = 0 ∧ c = 1) → ¬ (x = 4 ∧ c = rc) → ¬ ((5 ≤ x ∧ x ≤ 8) ∧ 16 * rc ≤ c ∧ c < 16 * rc + 16) → M'.1 x c = M.1 x c := fun x c q1 q2 q3 q4 q5 => by
    rw [hm1, if_neg q1, if_neg q2, if_neg q3, mct_1o _ hft ⟨q4, q5⟩]
  have M2o : ∀ x c, ¬ (x = 10 ∧ c = i) → ¬ (x = 1 ∧ c = rc) → ¬ (x = 9 ∧ 48 * rc ≤ c ∧ c < 48 * rc + 48) → M'.2 x c = M.2 x c := fun x c q1 q2 q3 => by
    rw [hm2, if_neg q1, if_neg q2, mct_2o _ hft q3]
  have al : C'.1 (3 * rc) 0 = C.1 120 0 := by rw [c1, if_pos ⟨rfl, rfl⟩, eC1, if_neg (by omega), if_neg (by omega)]
  refine RR_rev h hr ?_ (fun j hj => ?_) ?_ (fun n w q1 q2 q3 q4 => ?_) (fun n hn hq => ?_) (fun x c q1 q2 q3 q4 => ?_) (fun x c q1 q2 q3 => ?_) (fun u q1 q2 => ?_) (fun u n k q1 q2 q3 q4 q5 => ?_) (fun u c q1 q2 q3 => ?_) (fun n hn => ?_)
  · obtain ⟨⟨a1, a2, a3, a4, a5, a6, a7, a8, a9⟩, g1, g2, g3, g4, g5, g6⟩ := h.1
    have old : ∀ r, C'.2 141 r = if r = rc then X else C.2 141 r := fun r => by
      by_cases e : r = rc
      · rw [if_pos e, c2, if_neg (by omega), if_neg (by omega), if_pos ⟨rfl, e⟩]
      · rw [if_neg e, C2o _ _ (by omega) (by omega) (by omega)]
    have anc : ∀ r, M'.2 1 r = if r = rc then X else M.2 1 r := fun r => by
      by_cases e : r = rc
      · rw [if_pos e, hm2, if_neg (by omega), if_pos ⟨rfl, e⟩, or4, ← eX, g1 a (by omega), g1 b (by omega)]
      · rw [if_neg e, M2o _ _ (by omega) (by omega) (by omega)]
    refine ⟨⟨?_, ?_, ?_, ?_, ?_, by omega, by omega, a8, a9⟩, fun r hr' => ?_, fun r q1 q2 => ?_, fun n hn => ?_, fun n q1 q2 => ?_, fun n hn => ?_, ?_⟩
    · rw [M1o _ _ (by omega) (by omega) (by omega) (by omega) (by omega)]; exact a1
    · rw [c1, if_neg (by omega), if_neg (by omega), if_pos ⟨rfl, rfl⟩]
    · rw [hm1, if_neg (by omega), if_neg (by omega), if_pos ⟨rfl, rfl⟩]
    · rw [C1o _ _ (by omega) (by omega) (by omega) (by omega) (by omega)]; exact a4
    · rw [M1o _ _ (by omega) (by omega) (by omega) (by omega) (by omega)]; exact a5
    · rw [old, anc]
      split
      · rfl
      · exact g1 r hr'
    · rw [anc, if_neg (by omega)]; exact g2 r (by omega) q2
    · rw [C1o _ _ (by omega) (by omega) (by omega) (by omega) (by omega), M1o _ _ (by omega) (by omega) (by omega) (by omega) (by omega)]; exact g3 n hn
    · rw [M1o _ _ (by omega) (by omega) (by omega) (by omega) (by omega)]; exact g4 n q1 q2
    · rw [C1o _ _ (by omega) (by omega) (by omega) (by omega) (by omega)]; exact g5 n hn
    · rw [C1o _ _ (by omega) (by omega) (by omega) (by omega) (by omega), C1o _ _ (by omega) (by omega) (by omega) (by omega) (by omega), C1o _ _ (by omega) (by omega) (by omega) (by omega) (by omega), M1o _ _ (by omega) (by omega) (by omega) (by omega) (by omega), M1o _ _ (by omega) (by omega) (by omega) (by omega) (by omega), M1o _ _ (by omega) (by omega) (by omega) (by omega) (by omega), M1o _ _ (by omega) (by omega) (by omega) (by omega) (by omega)]
      exact g6
  · obtain ⟨p1, p2, p3, p4, p5, p6, c, pc, p7, p8, p9⟩ := h.2.1 j hj
    refine ⟨?_, ?_, ?_, ?_, fun k hk => ?_, fun q hq => ?_, c, pc, ?_, ?_, fun q hq => ?_⟩
    · by_cases e : j = i
      · subst e
        rw [c2, if_pos ⟨rfl, rfl⟩, hm2, if_pos ⟨rfl, rfl⟩, eC2, p1]
      · rw [C2o _ _ (by omega) (by omega) (by omega), M2o _ _ (by omega) (by omega) (by omega)]; exact p1
    · rw [C1o _ _ (by omega) (by omega) (by omega) (by omega) (by omega), M1o _ _ (by omega) (by omega) (by omega) (by omega) (by omega)]; exact p2
    · by_cases e : j = i
      · subst e
        rw [c1, if_neg (by omega), if_neg (by omega), if_neg (by omega), eC1, if_pos ⟨rfl, rfl⟩, hm1, if_neg (by omega), if_pos ⟨rfl, rfl⟩]
      · rw [C1o _ _ (by omega) (by omega) (by omega) (by omega) (by omega), M1o _ _ (by omega) (by omega) (by omega) (by omega) (by omega)]; exact p3
    · rw [C1o _ _ (by omega) (by omega) (by omega) (by omega) (by omega), M1o _ _ (by omega) (by omega) (by omega) (by omega) (by omega)]
      exact ⟨p4.1, p4.2.imp id (fun ⟨b, hb, eb⟩ => ⟨b, by omega, eb⟩)⟩
    · rw [C2o _ _ (by omega) (by omega) (by omega), M2o _ _ (by omega) (by omega) (by omega)]; exact p5 k hk
    · by_cases e : j = i
      · subst e
        rw [c1, if_neg (by omega), if_neg (by omega), if_neg (by omega), eC1, if_neg (by omega), if_pos ⟨rfl, hq⟩, hm1, if_pos (by omega)]
        exact ⟨rfl, Or.inl rfl⟩
      · rw [C1o _ _ (by omega) (by omega) (by omega) (by omega) (by omega), M1o _ _ (by omega) (by omega) (by omega) (by omega) (by omega)]; exact p6 q hq
    · rw [C1o _ _ (by omega) (by omega) (by omega) (by omega) (by omega)]; exact p7
    · rw [M1o _ _ (by omega) (by omega) (by omega) (by omega) (by omega)]; exact p8
    · rw [C1o _ _ (by omega) (by omega) (by omega) (by omega) (by omega), C1o _ _ (by omega) (by omega) (by omega) (by omega) (by omega), M1o _ _ (by omega) (by omega) (by omega) (by omega) (by omega), M1o _ _ (by omega) (by omega) (by omega) (by omega) (by omega)]; exact p9 q hq
  · refine RT_congr (Nat.le_refl _) hT ?_ ?_ (fun n w q1 q2 => ?_) (fun n k q1 q2 q3 => ?_)
    · exact al
    · rw [hm1, if_neg (by omega), if_neg (by omega), if_neg (by omega), mct_14 _ hft]
    · rw [c1, if_neg (show ¬ (3 * rc + 1 = 3 * rc ∧ n * 3 + w = 0) by omega), if_pos (show 3 * rc + 1 = 3 * rc + 1 ∧ n * 3 + w < 48 by omega), eC1, if_neg (by omega), if_neg (by omega)]
    · rw [hm1, if_neg (by omega), if_neg (by omega), if_neg (by omega), mct_1v _ hft q1 q2 q3]
  · rw [al] at q4
    rw [c2, if_neg (by omega), if_pos (show 3 * rc + 2 = 3 * rc + 2 ∧ n * 3 + w < 48 by omega), eC2, hm2, if_neg (by omega), if_neg (by omega), mct_2 _ hft, if_pos (show 9 = 9 ∧ 48 * rc ≤ 48 * rc + 3 * n + w ∧ 48 * rc + 3 * n + w < 48 * rc + 48 by omega)]
    show C.2 122 (n * 3 + w) = M.2 9 (2016 + (48 * rc + 3 * n + w - 48 * rc))
    rw [show 48 * rc + 3 * n + w - 48 * rc = 3 * n + w by omega]
    exact hMk n w q1 q2 q3 q4
  · rw [al] at hq
    rw [C1o _ _ (by omega) (by omega) (by omega) (by omega) (by omega), M1o _ _ (by omega) (by omega) (by omega) (by omega) (by omega)]; exact hBi n hn hq
  · rw [C1o _ _ q2 q3 (by omega) (by omega) (by omega)]
  · rw [C2o _ _ q2 (by omega) (by omega)]
  · rw [M1o _ _ (by omega) (by omega) (by omega) (by omega) (by omega)]
  · rw [M1o _ _ (by omega) (by omega) (by omega) (by omega) (by omega)]
  · rw [M2o _ _ (by omega) (by omega) (by omega)]
  · exact Or.inl ⟨C1o _ _ (by omega) (by omega) (by omega) (by omega) (by omega), M1o _ _ (by omega) (by omega) (by omega) (by omega) (by omega)⟩
