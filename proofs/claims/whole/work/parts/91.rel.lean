/-! WHEN THE TWO STORES SAY THE SAME -/
/-- going to parents, n comes to the root -/
def Up (p : Nat → Int32) : Nat → Nat → Prop
  | 0, n => n = 0
  | k + 1, n => n = 0 ∨ Up p k (cn (p n))
/-- a good tree: alive bits, the class's values, the reference's parents, names, contents, attributes -/
def TG (nc : Nat) (al : Int32) (v p q c a : Nat → Int32) : Prop :=
  ti al 0 = true ∧ (∀ n, n < 16 → ti al n = true → n < nc) ∧ (v (0 * 3) = -1 ∧ p 0 = -1 ∧ q 0 = -1) ∧
  (∀ n, n < 16 → ti al n = true → v (n * 3 + 1) = c n ∧ v (n * 3 + 2) = a n) ∧
  (∀ n, 1 ≤ n → n < 16 → ti al n = true → ∃ x y, x < 16 ∧ y < 10 ∧ v (n * 3) = nI (x * 10 + y) ∧ p n = nI x ∧ q n = nI y ∧ ti al x = true) ∧
  (∀ n m, 1 ≤ n → n < 16 → 1 ≤ m → m < 16 → ti al n = true → ti al m = true → v (n * 3) = v (m * 3) → n = m) ∧
  (∀ n, n < 16 → ti al n = true → ∃ k, Up p k n)
theorem Up_0 (p : Nat → Int32) (k : Nat) : Up p k 0 := by cases k with
  | zero => rfl
  | succ k => exact Or.inl rfl
theorem Up_congr {al : Int32} {p p' : Nat → Int32} (hc : ∀ n, 1 ≤ n → n < 16 → ti al n = true → p' n = p n ∧ ∃ x, x < 16 ∧ p n = nI x ∧ ti al x = true) :
    ∀ (k n : Nat), n < 16 → ti al n = true → Up p k n → Up p' k n
  | 0, _, _, _, h => h
  | k + 1, n, hn, ha, h => by
    rcases h with h | h
    · exact Or.inl h
    · rcases Nat.eq_zero_or_pos n with h0 | h0
      · exact Or.inl h0
      · obtain ⟨e, x, hx, ex, hax⟩ := hc n h0 hn ha
        refine Or.inr ?_
        rw [e]
        rw [ex, cn_nI (by omega)] at h ⊢
        exact Up_congr hc k x hx hax h
theorem TG_congr {nc nc' : Nat} {al : Int32} {v p q c a v' p' q' c' a' : Nat → Int32} (hnc : nc ≤ nc') (h : TG nc al v p q c a)
    (e : ∀ n, n < 16 → ti al n = true → v' (n * 3) = v (n * 3) ∧ v' (n * 3 + 1) = v (n * 3 + 1) ∧ v' (n * 3 + 2) = v (n * 3 + 2) ∧ p' n = p n ∧ q' n = q n ∧ c' n = c n ∧ a' n = a n) : TG nc' al v' p' q' c' a' := by
  obtain ⟨h0, h1, h2, h3, h4, h5, h6⟩ := h
  refine ⟨h0, fun n hn ha => Nat.lt_of_lt_of_le (h1 n hn ha) hnc, ?_, ?_, ?_, ?_, ?_⟩
  · obtain ⟨e1, _, _, e4, e5, _, _⟩ := e 0 (by omega) h0
    rw [e1, e4, e5]; exact h2
  · intro n hn ha
    obtain ⟨_, e2, e3, _, _, e6, e7⟩ := e n hn ha
    rw [e2, e3, e6, e7]; exact h3 n hn ha
  · intro n h1n hn ha
    obtain ⟨e1, _, _, e4, e5, _, _⟩ := e n hn ha
    rw [e1, e4, e5]; exact h4 n h1n hn ha
  · intro n m a1 a2 a3 a4 a5 a6 a7
    rw [(e n a2 a5).1, (e m a4 a6).1] at a7
    exact h5 n m a1 a2 a3 a4 a5 a6 a7
  · intro n hn ha
    obtain ⟨k, hk⟩ := h6 n hn ha
    refine ⟨k, Up_congr (al := al) (fun m h1m hm ham => ⟨(e m hm ham).2.2.2.1, ?_⟩) k n hn ha hk⟩
    obtain ⟨x, y, hx, _, _, ex, _, hax⟩ := h4 m h1m hm ham
    exact ⟨x, hx, ex, hax⟩
/-- the class's tree t and the reference's tree u -/
def RT (C M : SS) (nc t u : Nat) : Prop := C.1 (3 * t) 0 = M.1 4 u ∧ TG nc (C.1 (3 * t) 0) (C.1 (3 * t + 1)) (fun n => M.1 5 (16 * u + n)) (fun n => M.1 6 (16 * u + n)) (fun n => M.1 7 (16 * u + n)) (fun n => M.1 8 (16 * u + n))
theorem RT_congr {C M C' M' : SS} {nc nc' t u t' u' : Nat} (hnc : nc ≤ nc') (h : RT C M nc t u) (e0 : C'.1 (3 * t') 0 = C.1 (3 * t) 0) (e1 : M'.1 4 u' = M.1 4 u)
    (e2 : ∀ n w, n < 16 → w < 3 → C'.1 (3 * t' + 1) (n * 3 + w) = C.1 (3 * t + 1) (n * 3 + w))
    (e3 : ∀ n k, n < 16 → 5 ≤ k → k ≤ 8 → M'.1 k (16 * u' + n) = M.1 k (16 * u + n)) : RT C' M' nc' t' u' := by
  refine ⟨by rw [e0, e1]; exact h.1, ?_⟩
  rw [e0]
  refine TG_congr hnc h.2 (fun n hn ha => ⟨e2 n 0 hn (by omega), e2 n 1 hn (by omega), e2 n 2 hn (by omega), e3 n 5 hn (by omega) (by omega), e3 n 6 hn (by omega) (by omega), e3 n 7 hn (by omega) (by omega), e3 n 8 hn (by omega) (by omega)⟩)
/-- the marks of revision r -/
def RMk (C M : SS) (r : Nat) : Prop := ∀ n w, 1 ≤ n → n < 16 → w < 3 → ti (C.1 (3 * r) 0) n = true → C.2 (3 * r + 2) (n * 3 + w) = M.2 9 (48 * r + 3 * n + w)
/-- the births of its nodes -/
def RBi (C M : SS) (r : Nat) : Prop := ∀ n, n < 16 → ti (C.1 (3 * r) 0) n = true → C.1 142 n = M.1 3 n
/-- a peer -/
def RP (C M : SS) (rc i : Nat) : Prop :=
  C.2 (129 + 5 * i) 0 = M.2 10 i ∧ C.1 (129 + 5 * i) 2 = M.1 15 i ∧ C.1 (129 + 5 * i) 6 = M.1 13 i ∧
  (C.1 (129 + 5 * i) 4 = M.1 11 i ∧ (M.1 11 i = -1 ∨ ∃ b, b < rc ∧ M.1 11 i = nI b)) ∧
  (∀ k, k < 12 → C.2 (130 + 5 * i) k = M.2 14 (12 * i + k)) ∧
  (∀ j, j < 48 → C.1 (131 + 5 * i) j = M.1 12 (48 * i + j) ∧ (M.1 12 (48 * i + j) = -1 ∨ M.1 12 (48 * i + j) = nI 0 ∨ M.1 12 (48 * i + j) = nI 1)) ∧
  (∃ c, c ≤ 45 ∧ C.1 (129 + 5 * i) 9 = nI c ∧ M.1 16 i = nI c ∧ ∀ j, j < c → C.1 (132 + 5 * i) j = M.1 17 (64 * i + j) ∧ C.1 (133 + 5 * i) j = M.1 18 (64 * i + j))
/-- counts, revisions' ancestors, directories, the root of the merged tree -/
def RC (C M : SS) (rc nc : Nat) : Prop :=
  (M.1 0 0 = nI 0 ∧ C.1 139 4 = nI rc ∧ M.1 0 1 = nI rc ∧ C.1 139 7 = nI nc ∧ M.1 0 3 = nI nc ∧ 1 ≤ rc ∧ rc ≤ 40 ∧ 1 ≤ nc ∧ nc ≤ 16) ∧
  (∀ r, r < 40 → C.2 141 r = M.2 1 r) ∧ (∀ r, rc ≤ r → r < 40 → M.2 1 r = 0) ∧
  (∀ n, n < 16 → ti (C.1 139 6) n = !(M.1 2 n == 0)) ∧ (∀ n, nc ≤ n → n < 16 → M.1 2 n = 0) ∧ (∀ n, n < 16 → ∃ b, b < 40 ∧ C.1 142 n = nI b) ∧
  (C.1 121 0 = -1 ∧ M.1 5 672 = -1 ∧ M.1 6 672 = -1 ∧ C.1 121 1 = M.1 7 672 ∧ C.1 121 2 = M.1 8 672)
def RR (C M : SS) (rc nc : Nat) : Prop :=
  RC C M rc nc ∧ (∀ i, i < 2 → RP C M rc i) ∧ (∀ r, r < rc → RT C M nc r r ∧ RMk C M r ∧ RBi C M r) ∧ (∀ i, i < 2 → RT C M nc (41 + i) (40 + i))
/-! what it says of the questions that the calls ask -/
theorem isP_cn {x : Int32} (h : isP x = true) : cn x < 2 ∧ x = nI (cn x) := by
  obtain ⟨i, hi, rfl⟩ := isP_iff.mp h
  rw [cn_nI (by omega)]
  exact ⟨hi, rfl⟩
theorem inB_cn {x : Int32} {n : Nat} (hn : n < 2 ^ 31) (h : inB x n = true) : cn x < n ∧ x = nI (cn x) := by
  obtain ⟨i, hi, rfl⟩ := (inB_iff hn).mp h
  rw [cn_nI (by omega)]
  exact ⟨hi, rfl⟩
theorem R_held {C M : SS} {rc nc : Nat} (h : RR C M rc nc) {i : Nat} (hi : i < 2) (y : Int32) : heldB C rc i y = mHas M rc i y := by
  unfold heldB mHas
  rw [(h.2.1 i hi).1]
theorem R_alive {C M : SS} {nc t u : Nat} (h : RT C M nc t u) (y : Int32) : aliveB C t y = mAl M u y := by
  unfold aliveB mAl
  rw [h.1]
  rfl
theorem heldB_cn {S : SS} {rc i : Nat} {y : Int32} (hr : rc ≤ 40) (h : heldB S rc i y = true) : cn y < rc ∧ y = nI (cn y) ∧ tb (S.2 (129 + 5 * i) 0) (cn y) = true := by
  unfold heldB at h
  rw [Bool.and_eq_true] at h
  exact ⟨(inB_cn (by omega) h.1).1, (inB_cn (by omega) h.1).2, h.2⟩
theorem aliveB_cn {S : SS} {t : Nat} {y : Int32} (h : aliveB S t y = true) : cn y < 16 ∧ y = nI (cn y) ∧ ti (S.1 (3 * t) 0) (cn y) = true := by
  obtain ⟨i, hi, rfl⟩ := aliveB_of h
  rw [aliveB_nI S t hi] at h
  rw [cn_nI (by omega)]
  exact ⟨hi, rfl, h⟩
theorem if_of {α : Type} {b : Bool} {x y x' y' : α} (h1 : b = true → x = x') (h2 : b = false → y = y') : (if b = true then x else y) = (if b = true then x' else y') := by
  cases b with
  | true => exact h1 rfl
  | false => exact h2 rfl
theorem if_of2 {α : Type} {P Q : Prop} [Decidable P] [Decidable Q] {x y x' y' : α} (hPQ : P ↔ Q) (h1 : P → x = x') (h2 : ¬ P → y = y') : (if P then x else y) = (if Q then x' else y') := by
  by_cases h : P
  · rw [if_pos h, if_pos (hPQ.mp h)]; exact h1 h
  · rw [if_neg h, if_neg (fun z => h (hPQ.mpr z))]; exact h2 h
theorem ite_ne0 {P : Prop} [Decidable P] {x : Nat} {k : Nat} (hk : k ≠ 0) (h : (if P then x else k) = 0) : P ∧ x = 0 := by
  by_cases hp : P
  · rw [if_pos hp] at h; exact ⟨hp, h⟩
  · rw [if_neg hp] at h; exact absurd h hk
theorem ite_ne1 {P : Prop} [Decidable P] {x : Nat} {k : Nat} (hk : k ≠ 0) (h : (if P then k else x) = 0) : ¬ P ∧ x = 0 := by
  by_cases hp : P
  · rw [if_pos hp] at h; exact absurd h hk
  · rw [if_neg hp] at h; exact ⟨hp, h⟩
theorem nI_ge0 {n : Nat} (h : n < 2 ^ 31) : (0 : Int32) ≤ nI n := nI_pos' h
theorem m1_lt : (-1 : Int32) < 0 := by decide
theorem m1_ne {n : Nat} (h : n < 2 ^ 31) : ¬ nI n = -1 := fun z => nI_pos h (by rw [z]; decide)
/-- the base: none, or a revision -/
theorem R_base {C M : SS} {rc nc : Nat} (h : RR C M rc nc) {i : Nat} (hi : i < 2) : C.1 (129 + 5 * i) 4 = -1 ↔ ¬ (0 : Int32) ≤ M.1 11 i := by
  obtain ⟨e, hb⟩ := (h.2.1 i hi).2.2.2.1
  have h40 := h.1.1.2.2.2.2.2.2.1
  rw [e]
  rcases hb with hb | ⟨b, hb, eb⟩
  · rw [hb]; decide
  · rw [eb]
    exact ⟨fun z => absurd z (m1_ne (by omega)), fun z => absurd (nI_ge0 (by omega)) z⟩
