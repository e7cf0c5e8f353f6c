/-! ways to the root -/
theorem pig : ∀ (n : Nat) (f : Nat → Nat), (∀ i, i ≤ n → f i < n) → ∃ i j, i < j ∧ j ≤ n ∧ f i = f j
  | 0, f, h => absurd (h 0 (Nat.le_refl _)) (by omega)
  | n + 1, f, h => by
    by_cases hx : ∃ i, i ≤ n ∧ f i = f (n + 1)
    · obtain ⟨i, hi, e⟩ := hx
      exact ⟨i, n + 1, by omega, Nat.le_refl _, e⟩
    · have hne : ∀ i, i ≤ n → f i ≠ f (n + 1) := fun i hi e => hx ⟨i, hi, e⟩
      obtain ⟨i, j, hij, hj, e⟩ := pig n (fun i => if f i = n then f (n + 1) else f i) (fun i hi => by
        have h1 := h i (by omega)
        have h2 := h (n + 1) (Nat.le_refl _)
        have h3 := hne i hi
        show (if f i = n then f (n + 1) else f i) < n
        split
        · omega
        · omega)
      have a1 := hne i (by omega)
      have a2 := hne j (by omega)
      have e' : (if f i = n then f (n + 1) else f i) = (if f j = n then f (n + 1) else f j) := e
      refine ⟨i, j, hij, by omega, ?_⟩
      by_cases c1 : f i = n
      · by_cases c2 : f j = n
        · rw [c1, c2]
        · rw [if_pos c1, if_neg c2] at e'; exact absurd e'.symm a2
      · by_cases c2 : f j = n
        · rw [if_neg c1, if_pos c2] at e'; exact absurd e' a1
        · rw [if_neg c1, if_neg c2] at e'; exact e'
def itr {α : Type} (f : α → α) : Nat → α → α
  | 0, n => n
  | k + 1, n => itr f k (f n)
theorem itr_add {α : Type} (f : α → α) : ∀ (a b : Nat) (n : α), itr f (a + b) n = itr f b (itr f a n)
  | 0, b, n => by rw [Nat.zero_add]; rfl
  | a + 1, b, n => by rw [show a + 1 + b = (a + b) + 1 by omega]; exact itr_add f a b (f n)
theorem itr_s {α : Type} (f : α → α) (k : Nat) (n : α) : itr f (k + 1) n = f (itr f k n) := itr_add f k 1 n
theorem Up_itr (p : Nat → Int32) : ∀ (k n : Nat), Up p k n ↔ ∃ i, i ≤ k ∧ itr (fun m => cn (p m)) i n = 0
  | 0, n => ⟨fun h => ⟨0, Nat.le_refl _, h⟩, fun ⟨i, hi, e⟩ => by have : i = 0 := by omega
                                                                  subst this; exact e⟩
  | k + 1, n => by
    constructor
    · rintro (h | h)
      · exact ⟨0, by omega, h⟩
      · obtain ⟨i, hi, e⟩ := (Up_itr p k _).mp h
        exact ⟨i + 1, by omega, e⟩
    · rintro ⟨i, hi, e⟩
      cases i with
      | zero => exact Or.inl e
      | succ i => exact Or.inr ((Up_itr p k _).mpr ⟨i, by omega, e⟩)
/-- in a good tree the nodes have ranks below 16 that fall towards the root -/
theorem TG_rk {nc : Nat} {al : Int32} {v p q c a : Nat → Int32} (h : TG nc al v p q c a) : ∃ rk : Nat → Nat, (∀ j, j < 16 → ti al j = true → rk j ≤ 15) ∧ ∀ j, 1 ≤ j → j < 16 → ti al j = true → ∃ x, x < 16 ∧ p j = nI x ∧ ti al x = true ∧ rk x < rk j := by
  obtain ⟨h0, h1, h2, h3, h4, h5, h6⟩ := h
  have hm : ∀ j, ∃ k, (j < 16 ∧ ti al j = true) → Up p k j ∧ ∀ i, i < k → ¬ Up p i j := by
    intro j
    by_cases hj : j < 16 ∧ ti al j = true
    · obtain ⟨k, hk1, hk2⟩ := pk_least _ (h6 j hj.1 hj.2)
      exact ⟨k, fun _ => ⟨hk1, hk2⟩⟩
    · exact ⟨0, fun z => absurd z hj⟩
  have hr : ∀ j, (j < 16 ∧ ti al j = true) → Up p (Classical.choose (hm j)) j ∧ ∀ i, i < Classical.choose (hm j) → ¬ Up p i j := fun j => Classical.choose_spec (hm j)
  generalize hrk : (fun j => Classical.choose (hm j)) = rk
  have hr' : ∀ j, (j < 16 ∧ ti al j = true) → Up p (rk j) j ∧ ∀ i, i < rk j → ¬ Up p i j := by subst hrk; exact hr
  refine ⟨rk, fun j hj ha => ?_, fun j h1j hj ha => ?_⟩
  · obtain ⟨u1, u2⟩ := hr' j ⟨hj, ha⟩
    apply Classical.byContradiction
    intro hlt
    have hal : ∀ i, i ≤ 15 → itr (fun m => cn (p m)) i j < 16 ∧ 1 ≤ itr (fun m => cn (p m)) i j ∧ ti al (itr (fun m => cn (p m)) i j) = true := by
      intro i
      induction i with
      | zero =>
        intro _
        refine ⟨hj, ?_, ha⟩
        rcases Nat.eq_zero_or_pos j with e | e
        · exact absurd (by rw [e]; exact Up_0 p 0) (u2 0 (by omega))
        · exact e
      | succ i ih =>
        intro hi
        obtain ⟨i1, i2, i3⟩ := ih (by omega)
        obtain ⟨x, y, hx, hy, _, e2, _, hax⟩ := h4 _ i2 i1 i3
        rw [itr_s]
        show cn (p _) < 16 ∧ _
        rw [e2, cn_nI (by omega)]
        refine ⟨hx, ?_, hax⟩
        rcases Nat.eq_zero_or_pos x with e | e
        · refine absurd ((Up_itr p (i + 1) j).mpr ⟨i + 1, Nat.le_refl _, ?_⟩) (u2 (i + 1) (by omega))
          rw [itr_s]
          show cn (p _) = 0
          rw [e2, cn_nI (by omega), e]
        · exact e
    obtain ⟨i, i', hii, hi', e⟩ := pig 15 (fun i => itr (fun m => cn (p m)) i j - 1) (fun i hi => by
      obtain ⟨i1, i2, _⟩ := hal i hi
      show _ - 1 < 15
      omega)
    have e' : itr (fun m => cn (p m)) i j = itr (fun m => cn (p m)) i' j := by
      have b1 := hal i (by omega)
      have b2 := hal i' hi'
      have : itr (fun m => cn (p m)) i j - 1 = itr (fun m => cn (p m)) i' j - 1 := e
      omega
    obtain ⟨k, hk, ek⟩ := (Up_itr p (rk j) j).mp u1
    have hk2 : k = rk j := Classical.byContradiction fun z => u2 k (by omega) ((Up_itr p k j).mpr ⟨k, Nat.le_refl _, ek⟩)
    have hkk : itr (fun m => cn (p m)) (i + (k - i')) j = 0 := by
      rw [itr_add, e', ← itr_add, show i' + (k - i') = k by omega]
      exact ek
    exact u2 (i + (k - i')) (by omega) ((Up_itr p _ j).mpr ⟨_, Nat.le_refl _, hkk⟩)
  · obtain ⟨u1, u2⟩ := hr' j ⟨hj, ha⟩
    obtain ⟨x, y, hx, hy, _, e2, _, hax⟩ := h4 j h1j hj ha
    refine ⟨x, hx, e2, hax, ?_⟩
    obtain ⟨w1, w2⟩ := hr' x ⟨hx, hax⟩
    cases hk : rk j with
    | zero => rw [hk] at u1; exact absurd u1 (by show ¬ j = 0; omega)
    | succ k =>
      rw [hk] at u1
      rcases u1 with u1 | u1
      · omega
      · rw [e2, cn_nI (by omega)] at u1
        apply Classical.byContradiction
        intro hlt
        exact w2 k (by omega) u1
theorem RT_al {C M : SS} {nc t u : Nat} (h : RT C M nc t u) {n : Nat} (hn : n < 16) (ha : ti (C.1 (3 * t) 0) n = true) : aliveB C t (nI n) = true := by rw [aliveB_nI C t hn]; exact ha
theorem leadG_m1 (S : SS) (t : Nat) (y : Int32) : ∀ F, leadG S t y F (-1) = false
  | 0 => rfl
  | F + 1 => by
    have : aliveB S t (-1) = false := aliveB_lo S t (by decide)
    rw [leadG, this]; rfl
theorem lead_wi {C M : SS} {nc t u : Nat} (h : RT C M nc t u) {rk : Nat → Nat} (hrk : ∀ j, 1 ≤ j → j < 16 → ti (C.1 (3 * t) 0) j = true → ∃ x, x < 16 ∧ M.1 5 (16 * u + j) = nI x ∧ ti (C.1 (3 * t) 0) x = true ∧ rk x < rk j) {m : Nat} (hm0 : 1 ≤ m) (hm : m < 16) :
    ∀ (F N j : Nat), j < 16 → ti (C.1 (3 * t) 0) j = true → rk j < F → rk j ≤ N → leadG C t (nI m) F (nI j) = wiG M u (nI m) N j
  | 0, N, j, _, _, h1, _ => absurd h1 (by omega)
  | F + 1, N, j, hj, ha, h1, h2 => by
    rw [leadG, RT_al h hj ha, if_pos rfl, nI_clamp (by omega), (R_place h hj ha).1]
    rcases Nat.eq_zero_or_pos j with e | e
    · subst e
      have hne : ¬ nI 0 = nI m := fun z => absurd ((nI_eq (by omega) (by omega)).mp z) (by omega)
      rw [if_neg hne]
      have : M.1 5 (16 * u + 0) = -1 := h.2.2.2.1.2.1
      rw [this, leadG_m1]
      cases N with
      | zero => rw [wiG]; simp [hne]
      | succ N => rw [wiG, if_pos rfl]; simp [hne]
    · obtain ⟨x, hx, ex, hax, hlt⟩ := hrk j e hj ha
      cases N with
      | zero => omega
      | succ N =>
        rw [wiG, if_neg (show ¬ j = 0 by omega), ex, cn_nI (by omega)]
        split
        · rfl
        · exact lead_wi h hrk hm0 hm F N x hx hax (by omega) (by omega)
theorem lead_up {C M : SS} {nc t u : Nat} (h : RT C M nc t u) {rk : Nat → Nat} (hrk : ∀ j, 1 ≤ j → j < 16 → ti (C.1 (3 * t) 0) j = true → ∃ x, x < 16 ∧ M.1 5 (16 * u + j) = nI x ∧ ti (C.1 (3 * t) 0) x = true ∧ rk x < rk j) {m : Nat} {p' : Nat → Int32} (hp : ∀ j, j ≠ m → p' j = M.1 5 (16 * u + j)) :
    ∀ (F j : Nat), j < 16 → ti (C.1 (3 * t) 0) j = true → rk j < F → leadG C t (nI m) F (nI j) = false → ∃ k, Up p' k j
  | 0, j, _, _, h1, _ => absurd h1 (by omega)
  | F + 1, j, hj, ha, h1, h2 => by
    rw [leadG, RT_al h hj ha, if_pos rfl, nI_clamp (by omega), (R_place h hj ha).1] at h2
    by_cases e : nI j = nI m
    · rw [if_pos e] at h2; cases h2
    · rw [if_neg e] at h2
      have hjm : j ≠ m := fun z => e (by rw [z])
      rcases Nat.eq_zero_or_pos j with e0 | e0
      · exact ⟨0, e0⟩
      · obtain ⟨x, hx, ex, hax, hlt⟩ := hrk j e0 hj ha
        rw [ex] at h2
        obtain ⟨k, hk⟩ := lead_up h hrk hp F x hx hax (by omega) h2
        refine ⟨k + 1, Or.inr ?_⟩
        rw [hp j hjm, ex, cn_nI (by omega)]
        exact hk
/-! places taken -/
theorem lowG_m1 (p : Nat → Bool) : ∀ (n i : Nat), i + n < 2 ^ 31 → (lowG p n i = -1 ↔ ∀ j, i ≤ j → j < i + n → p j = false)
  | 0, i, _ => ⟨fun _ j h1 h2 => by omega, fun _ => rfl⟩
  | n + 1, i, hb => by
    rw [lowG]
    by_cases h : p i = true
    · rw [if_pos h]
      exact ⟨fun z => absurd z (m1_ne (by omega)), fun z => by rw [z i (by omega) (by omega)] at h; cases h⟩
    · rw [if_neg h, lowG_m1 p n (i + 1) (by omega)]
      constructor
      · intro z j h1 h2
        by_cases e : j = i
        · rw [e]; exact Bool.not_eq_true _ ▸ h
        · exact z j (by omega) (by omega)
      · exact fun z j h1 h2 => z j (by omega) (by omega)
theorem lowG_eq (p : Nat → Bool) : ∀ (n i m : Nat), i + n < 2 ^ 31 → m < 2 ^ 31 → (lowG p n i = nI m ↔ (i ≤ m ∧ m < i + n ∧ p m = true ∧ ∀ j, i ≤ j → j < m → p j = false))
  | 0, i, m, _, hm => ⟨fun z => absurd z.symm (m1_ne hm), fun z => by omega⟩
  | n + 1, i, m, hb, hm => by
    rw [lowG]
    by_cases h : p i = true
    · rw [if_pos h, nI_eq (by omega) hm]
      constructor
      · rintro rfl
        exact ⟨by omega, by omega, h, fun j h1 h2 => by omega⟩
      · rintro ⟨h1, h2, h3, h4⟩
        apply Classical.byContradiction
        intro hne
        rw [h4 i (by omega) (by omega)] at h; cases h
    · rw [if_neg h, lowG_eq p n (i + 1) m (by omega) hm]
      constructor
      · rintro ⟨h1, h2, h3, h4⟩
        refine ⟨by omega, by omega, h3, fun j h5 h6 => ?_⟩
        by_cases e : j = i
        · rw [e]; exact Bool.not_eq_true _ ▸ h
        · exact h4 j (by omega) h6
      · rintro ⟨h1, h2, h3, h4⟩
        refine ⟨?_, by omega, h3, fun j h5 h6 => h4 j (by omega) h6⟩
        rcases Nat.lt_or_ge i m with e | e
        · omega
        · have : m = i := by omega
          rw [this] at h3; exact absurd h3 h
theorem naG_neg (S : SS) (t : Nat) (x y z : Int32) : ∀ (n : Nat) (f : Int32), n < 16 → (naG S t x y z n f < 0 ↔ f < 0 ∧ ∀ j, 1 ≤ j → j ≤ n → naC S t x y z j = false)
  | 0, f, _ => ⟨fun h => ⟨h, fun j h1 h2 => by omega⟩, fun h => h.1⟩
  | n + 1, f, hn => by
    rw [naG, naG_neg S t x y z n _ (by omega)]
    by_cases h : naC S t x y z (n + 1) = true
    · rw [if_pos h]
      exact ⟨fun q => absurd q.1 (nI_pos (by omega)), fun q => by rw [q.2 (n + 1) (by omega) (by omega)] at h; cases h⟩
    · rw [if_neg h]
      refine ⟨fun q => ⟨q.1, fun j h1 h2 => ?_⟩, fun q => ⟨q.1, fun j h1 h2 => q.2 j h1 (by omega)⟩⟩
      by_cases e : j = n + 1
      · rw [e]; exact Bool.not_eq_true _ ▸ h
      · exact q.2 j h1 (by omega)
theorem pl_inj {x y p k : Nat} (hx : x < 16) (hy : y < 10) (hp : p < 16) (hk : k < 10) : nI (x * 10 + y) = nI (p * 10 + k) ↔ (nI x = nI p ∧ nI y = nI k) := by
  rw [nI_eq (by omega) (by omega), nI_eq (by omega) (by omega), nI_eq (by omega) (by omega)]
  omega
/-- who has a place, in the class and in the reference -/
theorem R_has {C M : SS} {nc t u : Nat} (h : RT C M nc t u) {p k : Nat} (hp : p < 16) (hk : k < 10) {j : Nat} (h1 : 1 ≤ j) (hj : j < 16) :
    (ti (C.1 (3 * t) 0) j && (C.1 (3 * t + 1) (j * 3) == nI (p * 10 + k))) = (ti (M.1 4 u) j && (M.1 5 (16 * u + j) == nI p) && (M.1 6 (16 * u + j) == nI k)) := by
  rw [← h.1]
  cases ha : ti (C.1 (3 * t) 0) j with
  | false => rfl
  | true =>
    obtain ⟨x, y, hx, hy, e1, e2, e3, _⟩ := h.2.2.2.2.2.1 j h1 hj ha
    have e2' : M.1 5 (16 * u + j) = nI x := e2
    have e3' : M.1 6 (16 * u + j) = nI y := e3
    rw [e1, e2', e3', Bool.true_and, Bool.true_and]
    rw [Bool.eq_iff_iff]
    simp only [beq_iff_eq, Bool.and_eq_true]
    exact pl_inj hx hy hp hk
theorem R_free {C M : SS} {nc t u : Nat} (h : RT C M nc t u) {p k : Nat} (hp : p < 16) (hk : k < 10) : low0 C t (nI (p * 10 + k)) = -1 ↔ naG M u (nI p) (nI k) (-1) 15 (-1) < 0 := by
  rw [lowG_m1 _ 15 1 (by omega), naG_neg M u _ _ _ 15 (-1) (by omega)]
  have e : ∀ j, 1 ≤ j → j < 16 → (ti (C.1 (3 * t) 0) j && (C.1 (3 * t + 1) (j * 3) == nI (p * 10 + k))) = naC M u (nI p) (nI k) (-1) j := by
    intro j h1 hj
    rw [R_has h hp hk h1 hj]
    unfold naC
    have : (nI j == (-1 : Int32)) = false := by simp [m1_ne (show j < 2 ^ 31 by omega)]
    rw [this]; rfl
  constructor
  · intro z
    exact ⟨by decide, fun j h1 h2 => by rw [← e j h1 (by omega)]; exact z j h1 (by omega)⟩
  · rintro ⟨_, z⟩ j h1 h2
    show (_ && _) = false
    rw [e j h1 (by omega)]; exact z j h1 (by omega)
theorem R_free2 {C M : SS} {nc t u : Nat} (h : RT C M nc t u) {p k n : Nat} (hp : p < 16) (hk : k < 10) (h1n : 1 ≤ n) (hn : n < 16) (ha : ti (C.1 (3 * t) 0) n = true) :
    (low0 C t (nI (p * 10 + k)) = -1 ∨ low0 C t (nI (p * 10 + k)) = nI n) ↔ naG M u (nI p) (nI k) (nI n) 15 (-1) < 0 := by
  rw [lowG_m1 _ 15 1 (by omega), lowG_eq _ 15 1 n (by omega) (by omega), naG_neg M u _ _ _ 15 (-1) (by omega)]
  have e : ∀ j, 1 ≤ j → j < 16 → (!(nI j == nI n) && (ti (C.1 (3 * t) 0) j && (C.1 (3 * t + 1) (j * 3) == nI (p * 10 + k)))) = naC M u (nI p) (nI k) (nI n) j := by
    intro j h1 hj
    rw [R_has h hp hk h1 hj]
    unfold naC
    simp only [Bool.and_assoc]
  constructor
  · intro z
    refine ⟨by decide, fun j h1 h2 => ?_⟩
    rw [← e j h1 (by omega)]
    rcases z with z | ⟨z1, z2, z3, z4⟩
    · rw [z j h1 (by omega)]; simp
    · by_cases ejn : j = n
      · rw [ejn]; simp
      · cases hq : (ti (C.1 (3 * t) 0) j && (C.1 (3 * t + 1) (j * 3) == nI (p * 10 + k))) with
        | false => simp
        | true =>
          have z3' : (ti (C.1 (3 * t) 0) n && (C.1 (3 * t + 1) (n * 3) == nI (p * 10 + k))) = true := z3
          rw [Bool.and_eq_true, beq_iff_eq] at hq z3'
          exact absurd (h.2.2.2.2.2.2.1 j n h1 (by omega) h1n hn hq.1 z3'.1 (by rw [hq.2, z3'.2])) ejn
  · rintro ⟨_, z⟩
    by_cases hq : (ti (C.1 (3 * t) 0) n && (C.1 (3 * t + 1) (n * 3) == nI (p * 10 + k))) = true
    · refine Or.inr ⟨h1n, by omega, hq, fun j h1 h2 => ?_⟩
      have := z j h1 (by omega)
      rw [← e j h1 (by omega)] at this
      have hne : (nI j == nI n) = false := by
        have : ¬ nI j = nI n := fun w => absurd ((nI_eq (by omega) (by omega)).mp w) (by omega)
        simp [this]
      rw [hne] at this
      simpa using this
    · refine Or.inl (fun j h1 h2 => ?_)
      by_cases ejn : j = n
      · rw [ejn]; exact Bool.not_eq_true _ ▸ hq
      · have := z j h1 (by omega)
        rw [← e j h1 (by omega)] at this
        have hne : (nI j == nI n) = false := by
          have : ¬ nI j = nI n := fun w => ejn ((nI_eq (by omega) (by omega)).mp w)
          simp [this]
        rw [hne] at this
        simpa using this
