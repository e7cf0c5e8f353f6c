/-! the list of conflicts -/
def GM (S T : SS) : Prop :=
  S.1 120 0 = T.1 4 42 ∧ ti (S.1 120 0) 0 = true ∧ S.1 121 0 = -1 ∧
  ∀ m, 1 ≤ m → m < 16 → ti (S.1 120 0) m = true → (∀ w, w < 3 → tb (S.2 139 9) (m * 3 + w) = ti (T.1 19 m) w) ∧ (ti (T.1 19 m) 0 = true → S.1 121 (m * 3) = -1) ∧
    (ti (T.1 19 m) 0 = false → ∃ x y, x < 16 ∧ y < 10 ∧ S.1 121 (m * 3) = nI (x * 10 + y) ∧ T.1 5 (672 + m) = nI x ∧ T.1 6 (672 + m) = nI y)
theorem GM_al {S T : SS} (h : GM S T) (x : Int32) : aliveB S 40 x = mAl T 42 x := by
  unfold aliveB mAl
  rw [← h.1]
  rfl
theorem dP_m1 : dP (-1) = -1 := rfl
theorem lead_cb {S T : SS} (h : GM S T) {n : Nat} (h1 : 1 ≤ n) (hn : n < 16) (ha : ti (S.1 120 0) n = true) : ∀ (F : Nat) (x : Int32), leadG S 40 (nI n) F x = cbG T n F x
  | 0, _ => rfl
  | F + 1, x => by
    rw [leadG, cbG, ← GM_al h]
    cases hx : aliveB S 40 x with
    | false =>
      rw [if_neg (by decide)]
      have hne : ¬ x = nI n := fun e => by
        rw [e, aliveB_nI S 40 hn] at hx
        have hx' : ti (S.1 120 0) n = false := hx
        rw [ha] at hx'; cases hx'
      rw [if_neg hne, if_neg (show ¬ (false = true) by decide)]
      split <;> rfl
    | true =>
      obtain ⟨b1, b2, b3⟩ := aliveB_cn hx
      rw [if_pos rfl]
      by_cases e : x = nI n
      · rw [if_pos e, if_pos e]
      · rw [if_neg e, if_neg e]
        show leadG S 40 (nI n) F (dP (S.1 121 (cn x * 3))) = _
        have b3' : ti (S.1 120 0) (cn x) = true := b3
        rcases Nat.eq_zero_or_pos (cn x) with e0 | e0
        · have hx0 : x ≤ 0 := by rw [b2, e0]; decide
          rw [if_pos hx0, e0, Nat.zero_mul, h.2.2.1, dP_m1, leadG_m1]
        · have hx0 : ¬ x ≤ 0 := by rw [b2, nI_le0 (by omega)]; omega
          rw [if_neg hx0, if_pos rfl]
          obtain ⟨g1, g2, g3⟩ := h.2.2.2 (cn x) e0 b1 b3'
          cases ho : ti (T.1 19 (cn x)) 0 with
          | true => rw [g2 ho, dP_m1, leadG_m1, if_neg (by decide)]
          | false =>
            obtain ⟨p, k, hp, hk, e1, e2, _⟩ := g3 ho
            rw [if_pos rfl, e1, dP_nI hp hk, e2]
            exact lead_cb h h1 hn ha F (nI p)
theorem lead_iff (S : SS) (t : Nat) (y : Int32) : ∀ (F : Nat) (x : Int32), leadG S t y F x = true ↔ ∃ i, i < F ∧ (∀ j, j ≤ i → aliveB S t (itr (fun z => dP (S.1 (3 * t + 1) (cn z * 3))) j x) = true) ∧ itr (fun z => dP (S.1 (3 * t + 1) (cn z * 3))) i x = y
  | 0, x => ⟨fun h => (by cases h), fun ⟨i, hi, _⟩ => by omega⟩
  | F + 1, x => by
    rw [leadG]
    cases hx : aliveB S t x with
    | false =>
      rw [if_neg (by decide)]
      refine ⟨fun h => (by cases h), fun ⟨i, hi, h1, h2⟩ => ?_⟩
      have := h1 0 (by omega)
      rw [itr, hx] at this; cases this
    | true =>
      rw [if_pos rfl]
      by_cases e : x = y
      · rw [if_pos e]
        exact ⟨fun _ => ⟨0, by omega, fun j hj => by rw [show j = 0 by omega]; exact hx, e⟩, fun _ => rfl⟩
      · rw [if_neg e]
        refine Iff.trans (lead_iff S t y F _) ⟨?_, ?_⟩
        · rintro ⟨i, hi, h1, h2⟩
          refine ⟨i + 1, by omega, fun j hj => ?_, h2⟩
          cases j with
          | zero => exact hx
          | succ j => exact h1 j (by omega)
        · rintro ⟨i, hi, h1, h2⟩
          cases i with
          | zero => exact absurd h2 e
          | succ i => exact ⟨i, by omega, fun j hj => h1 (j + 1) (by omega), h2⟩
theorem lead_17 (S : SS) (t : Nat) (y x : Int32) : leadG S t y 17 x = leadG S t y 16 x := by
  rw [Bool.eq_iff_iff, lead_iff, lead_iff]
  constructor
  · rintro ⟨i, hi, h1, h2⟩
    by_cases h16 : i < 16
    · exact ⟨i, h16, h1, h2⟩
    · have : i = 16 := by omega
      subst this
      obtain ⟨j, j', hjj, hj', e⟩ := pig 16 (fun j => cn (itr (fun z => dP (S.1 (3 * t + 1) (cn z * 3))) j x)) (fun j hj => (aliveB_cn (h1 j hj)).1)
      have e' : itr (fun z => dP (S.1 (3 * t + 1) (cn z * 3))) j x = itr (fun z => dP (S.1 (3 * t + 1) (cn z * 3))) j' x := by
        rw [(aliveB_cn (h1 j (by omega))).2.1, (aliveB_cn (h1 j' hj')).2.1]
        exact congrArg nI e
      refine ⟨j + (16 - j'), by omega, fun k hk => h1 k (by omega), ?_⟩
      rw [itr_add, e', ← itr_add, show j' + (16 - j') = 16 by omega]
      exact h2
  · rintro ⟨i, hi, h1, h2⟩
    exact ⟨i, by omega, h1, h2⟩
theorem twG_pos (S : SS) (n : Nat) : ∀ (k m x : Nat), 1 ≤ m → (0 < twG S n k m x ↔ (0 < x ∨ ∃ j, m ≤ j ∧ j < m + k ∧ twC S n j = true))
  | 0, m, x, _ => ⟨fun h => Or.inl h, fun h => h.elim id (fun ⟨j, h1, h2, _⟩ => by omega)⟩
  | k + 1, m, x, hm => by
    rw [twG, twG_pos S n k (m + 1) _ (by omega)]
    by_cases h : twC S n m = true
    · rw [if_pos h]
      exact ⟨fun _ => Or.inr ⟨m, by omega, by omega, h⟩, fun _ => Or.inl (by omega)⟩
    · rw [if_neg h]
      constructor
      · rintro (q | ⟨j, h1, h2, h3⟩)
        · exact Or.inl q
        · exact Or.inr ⟨j, by omega, by omega, h3⟩
      · rintro (q | ⟨j, h1, h2, h3⟩)
        · exact Or.inl q
        · by_cases e : j = m
          · rw [e] at h3; exact absurd h3 h
          · exact Or.inr ⟨j, by omega, by omega, h3⟩
theorem GM_tw {S T : SS} (h : GM S T) {n : Nat} (h1 : 1 ≤ n) (hn : n < 16) (ha : ti (S.1 120 0) n = true) (ho : ti (T.1 19 n) 0 = false) {j : Nat} (h1j : 1 ≤ j) (hj : j < 16) :
    (ti (S.1 120 0) j && (S.1 121 (j * 3) == S.1 121 (n * 3))) = twC T n j := by
  unfold twC
  rw [← h.1]
  obtain ⟨_, _, g3⟩ := h.2.2.2 n h1 hn ha
  obtain ⟨x, y, hx, hy, e1, e2, e3⟩ := g3 ho
  cases hj' : ti (S.1 120 0) j with
  | false => rfl
  | true =>
    obtain ⟨_, k2, k3⟩ := h.2.2.2 j h1j hj hj'
    cases hoj : ti (T.1 19 j) 0 with
    | true =>
      rw [k2 hoj, e1]
      have : ((-1 : Int32) == nI (x * 10 + y)) = false := by
        have : ¬ (-1 : Int32) = nI (x * 10 + y) := fun z => m1_ne (by omega) z.symm
        simpa using this
      rw [this]; rfl
    | false =>
      obtain ⟨x', y', hx', hy', f1, f2, f3⟩ := k3 hoj
      rw [e1, e2, e3, f1, f2, f3]
      show (true && _) = (true && !false && _ && _)
      rw [Bool.true_and, Bool.not_false, Bool.and_true, Bool.true_and, Bool.eq_iff_iff]
      simp only [beq_iff_eq, Bool.and_eq_true]
      exact pl_inj hx' hy' hx hy
theorem GM_pcK {S T : SS} (h : GM S T) {n : Nat} (h1 : 1 ≤ n) (hn : n < 16) (ha : ti (S.1 120 0) n = true) (ho : ti (T.1 19 n) 0 = false) : pcK S n = mpcK T n := by
  obtain ⟨_, _, g3⟩ := h.2.2.2 n h1 hn ha
  obtain ⟨x, y, hx, hy, e1, e2, e3⟩ := g3 ho
  have e1' : dP (S.1 (3 * 40 + 1) (n * 3)) = T.1 5 (672 + n) := by
    show dP (S.1 121 (n * 3)) = _
    rw [e1, dP_nI hx hy, e2]
  unfold pcK mpcK
  rw [e1', GM_al h]
  refine if_of2 Iff.rfl (fun _ => rfl) (fun _ => if_of2 ?_ (fun _ => rfl) (fun _ => ?_))
  · show ¬ lowG (fun j => ti (S.1 120 0) j && (S.1 121 (j * 3) == S.1 121 (n * 3))) 15 1 = nI n ↔ _
    rw [lowG_eq _ 15 1 n (by omega) (by omega), twG_pos T n (n - 1) 1 0 (by omega)]
    constructor
    · intro z
      right
      apply Classical.byContradiction
      intro hne
      refine z ⟨h1, by omega, by simp [ha], fun j q1 q2 => ?_⟩
      rw [GM_tw h h1 hn ha ho q1 (by omega)]
      cases hc : twC T n j with
      | false => rfl
      | true => exact absurd ⟨j, q1, by omega, hc⟩ hne
    · rintro (z | ⟨j, q1, q2, q3⟩) ⟨_, _, _, z4⟩
      · omega
      · rw [← GM_tw h h1 hn ha ho q1 (by omega)] at q3
        have := z4 j q1 (by omega)
        rw [q3] at this; cases this
  · rw [← lead_17, lead_cb h h1 hn ha]
theorem leadG_fr {S S0 : SS} {t : Nat} (e0 : ∀ c, S.1 (3 * t) c = S0.1 (3 * t) c) (e1 : ∀ c, S.1 (3 * t + 1) c = S0.1 (3 * t + 1) c) (y : Int32) : ∀ (F : Nat) (x : Int32), leadG S t y F x = leadG S0 t y F x
  | 0, _ => rfl
  | F + 1, x => by
    rw [leadG, leadG, e1, leadG_fr e0 e1 y F]
    have : aliveB S t x = aliveB S0 t x := by unfold aliveB; rw [e0]
    rw [this]
theorem pcK_fr {S S0 : SS} (e0 : ∀ c, S.1 120 c = S0.1 120 c) (e1 : ∀ c, S.1 121 c = S0.1 121 c) (n : Nat) : pcK S n = pcK S0 n := by
  have a0 : S.1 (3 * 40) = S0.1 (3 * 40) := by funext c; exact e0 c
  have a1 : S.1 (3 * 40 + 1) = S0.1 (3 * 40 + 1) := by funext c; exact e1 c
  unfold pcK
  rw [a1, leadG_fr (t := 40) e0 e1, a0]
  have : ∀ x, aliveB S 40 x = aliveB S0 40 x := fun x => by unfold aliveB; rw [a0]
  rw [this]
/-- the lists so far -/
def LI (S0 T0 : SS) (i B : Nat) (q p : SS × Nat) : Prop :=
  q.2 = p.2 ∧ q.2 ≤ B ∧ (∀ x c, x ≠ 132 + 5 * i → x ≠ 133 + 5 * i → ¬ (x = 129 + 5 * i ∧ c = 9) → q.1.1 x c = S0.1 x c) ∧ q.1.2 = S0.2 ∧
  (∀ x c, ¬ (x = 16 ∧ c = i) → ¬ ((x = 17 ∨ x = 18) ∧ 64 * i ≤ c ∧ c < 64 * i + 64) → p.1.1 x c = T0.1 x c) ∧ p.1.2 = T0.2 ∧ q.1.1 (129 + 5 * i) 9 = nI q.2 ∧ p.1.1 16 i = nI q.2 ∧
  (∀ j, j < q.2 → q.1.1 (132 + 5 * i) j = p.1.1 17 (64 * i + j) ∧ q.1.1 (133 + 5 * i) j = p.1.1 18 (64 * i + j))
theorem LI_up {S0 T0 : SS} {i B B' : Nat} {q p : SS × Nat} (h : LI S0 T0 i B q p) (hB : B ≤ B') : LI S0 T0 i B' q p := ⟨h.1, Nat.le_trans h.2.1 hB, h.2.2⟩
theorem LI_list {S0 T0 : SS} {i B : Nat} {q p : SS × Nat} (hi : i < 2) (h : LI S0 T0 i B q p) (hB : B < 64) (x y : Int32) : LI S0 T0 i (B + 1) (liS q.1 i q.2 x y, q.2 + 1) (mliS p.1 i p.2 x y, p.2 + 1) := by
  obtain ⟨h1, h2, h3, h4, h5, h6, h7, h8, h9⟩ := h
  have hc : q.2 < 64 := by omega
  unfold liS mliS
  rw [← h1]
  refine ⟨rfl, by show q.2 + 1 ≤ B + 1; omega, fun x c q1 q2 q3 => ?_, h4, fun x c q1 q2 => ?_, h6, s1_h _ _ _ _, s1_h _ _ _ _, fun j hj => ?_⟩
  · show (s1 (s1 (s1 q.1 _ _ _) _ _ _) _ _ _).1 x c = _
    rw [s1_o _ _ _ _ q3, s1_o _ _ _ _ (by omega), s1_o _ _ _ _ (by omega)]; exact h3 x c q1 q2 q3
  · show (s1 (s1 (s1 p.1 _ _ _) _ _ _) _ _ _).1 x c = _
    rw [s1_o _ _ _ _ q1, s1_o _ _ _ _ (by omega), s1_o _ _ _ _ (by omega)]; exact h5 x c q1 q2
  · have hj' : j < q.2 + 1 := hj
    show (s1 (s1 (s1 q.1 _ _ _) _ _ _) _ _ _).1 _ _ = (s1 (s1 (s1 p.1 _ _ _) _ _ _) _ _ _).1 _ _ ∧ (s1 (s1 (s1 q.1 _ _ _) _ _ _) _ _ _).1 _ _ = (s1 (s1 (s1 p.1 _ _ _) _ _ _) _ _ _).1 _ _
    rw [s1_o _ (129 + 5 * i) _ _ (by omega), s1_o _ 16 _ _ (by omega), s1_o _ (129 + 5 * i) _ _ (by omega), s1_o _ 16 _ _ (by omega), s1_o _ (133 + 5 * i) _ _ (by omega), s1_o _ 18 _ _ (by omega)]
    by_cases e : j = q.2
    · subst e
      rw [s1_h, s1_h, s1_h, s1_h]; exact ⟨rfl, rfl⟩
    · rw [s1_o _ (132 + 5 * i) _ _ (by omega), s1_o _ 17 _ _ (by omega), s1_o _ (133 + 5 * i) _ _ (by omega), s1_o _ 18 _ _ (by omega), s1_o _ (132 + 5 * i) _ _ (by omega), s1_o _ 17 _ _ (by omega)]
      exact h9 j (by omega)
theorem LI_und {S0 T0 : SS} {i B : Nat} {q p : SS × Nat} (hi : i < 2) (h : LI S0 T0 i B q p) (hG : GM S0 T0) {n w : Nat} (h1 : 1 ≤ n) (hn : n < 16) (ha : ti (S0.1 120 0) n = true) (hw : w < 3) : tb (q.1.2 139 9) (n * 3 + w) = ti (T0.1 19 n) w ∧ ti (p.1.1 19 n) w = ti (T0.1 19 n) w := by
  obtain ⟨_, _, _, h4, h5, _⟩ := h
  rw [h4, h5 19 n (by omega) (by omega)]
  exact ⟨(hG.2.2.2 n h1 hn ha).1 w hw, rfl⟩
theorem LI_W {S0 T0 : SS} (hG : GM S0 T0) {i n : Nat} (hi : i < 2) (h1 : 1 ≤ n) (hn : n < 16) (ha : ti (S0.1 120 0) n = true) : ∀ (k w B : Nat) (q p : SS × Nat), w + k ≤ 3 → B + k ≤ 64 → LI S0 T0 i B q p →
    LI S0 T0 i (B + k) (lcW i n k w q) (mlcW i n k w p) ∧ ((lcW i n k w q).2 = 0 → q.2 = 0 ∧ ∀ v, w ≤ v → v < w + k → ti (T0.1 19 n) v = false)
  | 0, w, B, q, p, _, _, h => ⟨h, fun z => ⟨z, fun v q1 q2 => by omega⟩⟩
  | k + 1, w, B, q, p, hw, hB, h => by
    obtain ⟨u1, u2⟩ := LI_und hi h hG h1 hn ha (show w < 3 by omega)
    rw [lcW, mlcW, u1, u2]
    cases hu : ti (T0.1 19 n) w with
    | true =>
      rw [if_pos rfl, if_pos rfl]
      obtain ⟨g1, g2⟩ := LI_W hG hi h1 hn ha k (w + 1) (B + 1) _ _ (by omega) (by omega) (LI_list hi h (by omega) (nI n) (nI w))
      rw [show B + (k + 1) = B + 1 + k by omega]
      refine ⟨g1, fun z => ?_⟩
      have := (g2 z).1
      exact absurd this (Nat.succ_ne_zero _)
    | false =>
      rw [if_neg (by decide), if_neg (by decide)]
      obtain ⟨g1, g2⟩ := LI_W hG hi h1 hn ha k (w + 1) B q p (by omega) (by omega) h
      refine ⟨LI_up g1 (by omega), fun z => ⟨(g2 z).1, fun v q1 q2 => ?_⟩⟩
      by_cases e : v = w
      · rw [e]; exact hu
      · exact (g2 z).2 v (by omega) (by omega)
theorem LI_GM {S0 T0 : SS} {i B : Nat} {q p : SS × Nat} (hi : i < 2) (h : LI S0 T0 i B q p) (hG : GM S0 T0) : GM q.1 p.1 := by
  obtain ⟨_, _, h3, h4, h5, _⟩ := h
  obtain ⟨g1, g2, g3, g4⟩ := hG
  have e0 : q.1.1 120 0 = S0.1 120 0 := h3 _ _ (by omega) (by omega) (by omega)
  refine ⟨by rw [e0, h5 4 42 (by omega) (by omega)]; exact g1, by rw [e0]; exact g2, by rw [h3 _ _ (by omega) (by omega) (by omega)]; exact g3, fun m q1 q2 q3 => ?_⟩
  rw [e0] at q3
  rw [h4, h5 19 m (by omega) (by omega), h5 5 _ (by omega) (by omega), h5 6 _ (by omega) (by omega), h3 121 _ (by omega) (by omega) (by omega)]
  exact g4 m q1 q2 q3
theorem LI_I {S0 T0 : SS} (hG : GM S0 T0) {i n B : Nat} (hi : i < 2) (h1 : 1 ≤ n) (hn : n < 16) {q p : SS × Nat} (hB : B + 3 ≤ 64) (h : LI S0 T0 i B q p) :
    LI S0 T0 i (B + 3) (lcI i n q) (mlcI i n p) ∧ ((lcI i n q).2 = 0 → q.2 = 0 ∧ (ti (S0.1 120 0) n = true → (∀ w, w < 3 → ti (T0.1 19 n) w = false) ∧ pcK S0 n = 0)) := by
  have e0 : q.1.1 (3 * 40) 0 = S0.1 120 0 := h.2.2.1 _ _ (by omega) (by omega) (by omega)
  have e1 : p.1.1 4 42 = S0.1 120 0 := by rw [h.2.2.2.2.1 4 42 (by omega) (by omega)]; exact hG.1.symm
  unfold lcI mlcI
  rw [e0, e1]
  cases ha : ti (S0.1 120 0) n with
  | false =>
    rw [if_neg (by decide), if_neg (by decide)]
    exact ⟨LI_up h (by omega), fun z => ⟨z, fun y => by cases y⟩⟩
  | true =>
    rw [if_pos rfl, if_pos rfl]
    obtain ⟨u1, u2⟩ := LI_und hi h hG h1 hn ha (show 0 < 3 by omega)
    cases hu : ti (T0.1 19 n) 0 with
    | true =>
      obtain ⟨g1, g2⟩ := LI_W hG hi h1 hn ha 3 0 B q p (by omega) (by omega) h
      unfold lcF mlcF
      have v1 := (LI_und hi g1 hG h1 hn ha (show 0 < 3 by omega)).1
      have v2 := (LI_und hi g1 hG h1 hn ha (show 0 < 3 by omega)).2
      rw [Nat.add_zero] at v1
      rw [v1, v2, hu, if_pos rfl, if_pos rfl]
      refine ⟨g1, fun z => ?_⟩
      have := (g2 z).2 0 (by omega) (by omega)
      rw [hu] at this; cases this
    | false =>
      have s1' : lcW i n 3 0 q = lcW i n 2 1 q := by rw [lcW, u1, hu, if_neg (by decide)]
      have s2' : mlcW i n 3 0 p = mlcW i n 2 1 p := by rw [mlcW, u2, hu, if_neg (by decide)]
      obtain ⟨g1, g2⟩ := LI_W hG hi h1 hn ha 2 1 B q p (by omega) (by omega) h
      rw [s1', s2']
      unfold lcF mlcF
      have v1 := (LI_und hi g1 hG h1 hn ha (show 0 < 3 by omega)).1
      have v2 := (LI_und hi g1 hG h1 hn ha (show 0 < 3 by omega)).2
      rw [Nat.add_zero] at v1
      rw [v1, v2, hu, if_neg (show ¬ (false = true) by decide), if_neg (show ¬ (false = true) by decide)]
      generalize lcW i n 2 1 q = q' at g1 g2 ⊢
      generalize mlcW i n 2 1 p = p' at g1 ⊢
      have hG' := LI_GM hi g1 hG
      have ha' : ti (q'.1.1 120 0) n = true := by rw [g1.2.2.1 120 0 (by omega) (by omega) (by omega)]; exact ha
      have ho' : ti (p'.1.1 19 n) 0 = false := by rw [g1.2.2.2.2.1 19 n (by omega) (by omega)]; exact hu
      have hk := GM_pcK hG' h1 hn ha' ho'
      have hk0 : pcK q'.1 n = pcK S0 n := pcK_fr (fun c => g1.2.2.1 120 c (by omega) (by omega) (by omega)) (fun c => g1.2.2.1 121 c (by omega) (by omega) (by omega)) n
      unfold pcS mpcS
      rw [← hk, hk0]
      by_cases hz : pcK S0 n = 0
      · rw [if_pos hz, if_pos hz, if_pos hz]
        refine ⟨LI_up g1 (show B + 2 ≤ B + 3 by omega), fun z => ?_⟩
        obtain ⟨z1, z2⟩ := g2 z
        refine ⟨z1, fun _ => ⟨fun w hw => ?_, hz⟩⟩
        by_cases e : w = 0
        · rw [e]; exact hu
        · exact z2 w (by omega) (by omega)
      · rw [if_neg hz, if_neg hz, if_neg hz]
        exact ⟨LI_list hi g1 (by omega) (nI n) (nI (pcK S0 n)), fun z => absurd z (Nat.succ_ne_zero _)⟩
theorem LI_G {S0 T0 : SS} (hG : GM S0 T0) {i : Nat} (hi : i < 2) : ∀ (k n B : Nat) (q p : SS × Nat), 1 ≤ n → n + k ≤ 16 → B + 3 * k ≤ 64 → LI S0 T0 i B q p →
    LI S0 T0 i (B + 3 * k) (lcG i k n q) (mlcG i k n p) ∧ ((lcG i k n q).2 = 0 → q.2 = 0 ∧ ∀ m, n ≤ m → m < n + k → ti (S0.1 120 0) m = true → (∀ w, w < 3 → ti (T0.1 19 m) w = false) ∧ pcK S0 m = 0)
  | 0, n, B, q, p, _, _, _, h => ⟨h, fun z => ⟨z, fun m q1 q2 => by omega⟩⟩
  | k + 1, n, B, q, p, h1, hn, hB, h => by
    obtain ⟨g1, g2⟩ := LI_I hG hi h1 (by omega) (by omega) h
    obtain ⟨i1, i2⟩ := LI_G hG hi k (n + 1) (B + 3) _ _ (by omega) (by omega) (by omega) g1
    rw [lcG, mlcG, show B + 3 * (k + 1) = B + 3 + 3 * k by omega]
    refine ⟨i1, fun z => ?_⟩
    obtain ⟨z1, z2⟩ := i2 z
    obtain ⟨y1, y2⟩ := g2 z1
    refine ⟨y1, fun m q1 q2 q3 => ?_⟩
    by_cases e : m = n
    · subst e; exact y2 q3
    · exact z2 m (by omega) (by omega) q3
theorem mlcG_add (i : Nat) : ∀ (j k n : Nat) (p : SS × Nat), mlcG i (j + k) n p = mlcG i k (n + j) (mlcG i j n p)
  | 0, k, n, p => by rw [Nat.zero_add]; rfl
  | j + 1, k, n, p => by rw [show j + 1 + k = (j + k) + 1 by omega, mlcG, mlcG_add i j k, mlcG, show n + 1 + j = n + (j + 1) by omega]
theorem mlcG_no (i : Nat) : ∀ (k n : Nat) (p : SS × Nat), (∀ m, n ≤ m → m < n + k → ti (p.1.1 4 42) m = false) → mlcG i k n p = p
  | 0, _, _, _ => rfl
  | k + 1, n, p, h => by
    have : mlcI i n p = p := by unfold mlcI; rw [h n (by omega) (by omega), if_neg (by decide)]
    rw [mlcG, this, mlcG_no i k (n + 1) p (fun m q1 q2 => h m (by omega) (by omega))]
