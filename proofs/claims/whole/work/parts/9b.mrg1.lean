/-! MERGE: the merged trees -/
/-- the class's store while a merge goes on, beside the store before it -/
def Fr (S C0 : SS) : Prop := (∀ x c, x ≠ 120 → x ≠ 121 → S.1 x c = C0.1 x c) ∧ (∀ x c, x ≠ 122 → x ≠ 139 → S.2 x c = C0.2 x c)
def FrM (S M0 : SS) : Prop := (∀ x c, ¬ (x = 4 ∧ c = 42) → ¬ ((5 ≤ x ∧ x ≤ 8) ∧ 672 ≤ c) → x ≠ 19 → S.1 x c = M0.1 x c) ∧ (∀ x c, ¬ (x = 9 ∧ 2016 ≤ c) → S.2 x c = M0.2 x c)
theorem ltG_fr {S C0 : SS} (h : ∀ c, S.2 141 c = C0.2 141 c) (x : Int64) : ∀ (k r : Nat) (a : Int64), ltG S x k r a = ltG C0 x k r a
  | 0, _, _ => rfl
  | k + 1, r, a => by rw [ltG, ltG, h, ltG_fr h x k]
theorem osI_fr {S C0 : SS} (h : Fr S C0) {a b : Nat} (ha : a < 40) (hb : b < 40) (n w : Nat) : osI S n w a b = osI C0 n w a b := by
  unfold osI
  rw [h.1 _ _ (by omega) (by omega), h.1 _ _ (by omega) (by omega), h.2 _ _ (by omega) (by omega), h.2 _ _ (by omega) (by omega), h.2 _ _ (by omega) (by omega), h.2 _ _ (by omega) (by omega)]
theorem mnSide_fr {S C0 : SS} (h : Fr S C0) {a b : Nat} (ha : a < 40) (hb : b < 40) (i n w : Nat) : mnSide S i n w a b = mnSide C0 i n w a b := by
  unfold mnSide
  rw [osI_fr h ha hb, h.1 _ _ (by omega) (by omega)]
theorem mmI_fr {S C0 : SS} (h : ∀ x c, x ≠ 122 → x ≠ 139 → S.2 x c = C0.2 x c) {a b : Nat} (ha : a < 40) (hb : b < 40) (rc n w : Nat) (o s : Int32) : mmI S rc n w a b o s = mmI C0 rc n w a b o s := by
  unfold mmI
  rw [h _ _ (by omega) (by omega), h _ _ (by omega) (by omega), ltG_fr (fun c => h _ _ (by omega) (by omega))]
theorem mn1_spec {S C0 : SS} (h : Fr S C0) {a b : Nat} (ha : a < 40) (hb : b < 40) (rc i n w : Nat) :
    (∀ x c, (mn1 S rc i n a b w).1 x c = if x = 121 ∧ c = n * 3 + w ∧ mnSide C0 i n w a b ≠ -1 then C0.1 (3 * (if mnSide C0 i n w a b = nI 1 then b else a) + 1) (n * 3 + w) else S.1 x c) ∧
    (∀ x c, (mn1 S rc i n a b w).2 x c = if mnSide C0 i n w a b = -1 then (if x = 139 ∧ c = 9 then S.2 139 9 ||| b64 (n * 3 + w) else S.2 x c) else (if x = 122 ∧ c = n * 3 + w then mmI C0 rc n w a b (osI C0 n w a b) (mnSide C0 i n w a b) else S.2 x c)) := by
  unfold mn1
  rw [mnSide_fr h ha hb, osI_fr h ha hb]
  by_cases q : mnSide C0 i n w a b = -1
  · rw [if_pos q]
    refine ⟨fun x c => ?_, fun x c => ?_⟩
    · rw [s2_1, if_neg (fun z => z.2.2 q)]
    · rw [if_pos q, s2_at]
  · rw [if_neg q]
    have put : ∀ f, f < 40 → (∀ x c, (mnPut S rc n w a b f (osI C0 n w a b) (mnSide C0 i n w a b)).1 x c = if x = 121 ∧ c = n * 3 + w then C0.1 (3 * f + 1) (n * 3 + w) else S.1 x c) ∧ (∀ x c, (mnPut S rc n w a b f (osI C0 n w a b) (mnSide C0 i n w a b)).2 x c = if x = 122 ∧ c = n * 3 + w then mmI C0 rc n w a b (osI C0 n w a b) (mnSide C0 i n w a b) else S.2 x c) := fun f hf => by
      unfold mnPut
      refine ⟨fun x c => ?_, fun x c => ?_⟩
      · rw [s2_1, s1_at, h.1 (3 * f + 1) _ (by omega) (by omega)]
      · rw [s2_at, s1_2, mmI_fr (S := s1 S (3 * 40 + 1) (n * 3 + w) (S.1 (3 * f + 1) (n * 3 + w))) (C0 := C0) (fun x c h1 h2 => h.2 x c h1 h2) ha hb]
    by_cases q1 : mnSide C0 i n w a b = nI 1
    · rw [if_pos q1, if_pos q1]
      refine ⟨fun x c => ?_, fun x c => ?_⟩
      · rw [(put b hb).1]
        exact if_of2 ⟨fun z => ⟨z.1, z.2, q⟩, fun z => ⟨z.1, z.2.1⟩⟩ (fun _ => rfl) (fun _ => rfl)
      · rw [if_neg q, (put b hb).2]
    · rw [if_neg q1, if_neg q1]
      refine ⟨fun x c => ?_, fun x c => ?_⟩
      · rw [(put a ha).1]
        exact if_of2 ⟨fun z => ⟨z.1, z.2, q⟩, fun z => ⟨z.1, z.2.1⟩⟩ (fun _ => rfl) (fun _ => rfl)
      · rw [if_neg q, (put a ha).2]
/-- of a scalar that both have: not decided; where its value comes from; its marks -/
def uC (C0 : SS) (i a b n w : Nat) : Bool := decide (mnSide C0 i n w a b = -1)
def fC (C0 : SS) (i a b n w : Nat) : Nat := if mnSide C0 i n w a b = nI 1 then b else a
def kC (C0 : SS) (rc i a b n w : Nat) : Int64 := mmI C0 rc n w a b (osI C0 n w a b) (mnSide C0 i n w a b)
theorem mn1_fr {S C0 : SS} (h : Fr S C0) {a b : Nat} (ha : a < 40) (hb : b < 40) (rc i n w : Nat) : Fr (mn1 S rc i n a b w) C0 := by
  obtain ⟨h1, h2⟩ := mn1_spec h ha hb rc i n w
  refine ⟨fun x c q1 q2 => ?_, fun x c q1 q2 => ?_⟩
  · rw [h1, if_neg (fun z => q2 z.1)]; exact h.1 x c q1 q2
  · rw [h2, if_neg (show ¬ (x = 139 ∧ c = 9) from fun z => q2 z.1), if_neg (show ¬ (x = 122 ∧ c = n * 3 + w) from fun z => q1 z.1)]
    split <;> exact h.2 x c q1 q2
theorem mnW_spec {C0 : SS} {a b : Nat} (ha : a < 40) (hb : b < 40) (rc i n : Nat) (hn : n < 16) : ∀ (k w : Nat) (S : SS), Fr S C0 → w + k ≤ 3 →
    Fr (mnW rc i n a b k w S) C0 ∧ (∀ c, (mnW rc i n a b k w S).1 120 c = S.1 120 c) ∧ (∀ c, (c < n * 3 + w ∨ n * 3 + w + k ≤ c) → (mnW rc i n a b k w S).1 121 c = S.1 121 c ∧ (mnW rc i n a b k w S).2 122 c = S.2 122 c) ∧
    (∀ q, q < 64 → (q < n * 3 + w ∨ n * 3 + w + k ≤ q) → tb ((mnW rc i n a b k w S).2 139 9) q = tb (S.2 139 9) q) ∧
    ∀ v, w ≤ v → v < w + k → tb ((mnW rc i n a b k w S).2 139 9) (n * 3 + v) = (tb (S.2 139 9) (n * 3 + v) || uC C0 i a b n v) ∧ (uC C0 i a b n v = false → (mnW rc i n a b k w S).1 121 (n * 3 + v) = C0.1 (3 * fC C0 i a b n v + 1) (n * 3 + v) ∧ (mnW rc i n a b k w S).2 122 (n * 3 + v) = kC C0 rc i a b n v) ∧ (uC C0 i a b n v = true → (mnW rc i n a b k w S).1 121 (n * 3 + v) = S.1 121 (n * 3 + v))
  | 0, w, S, h, _ => ⟨h, fun _ => rfl, fun _ _ => ⟨rfl, rfl⟩, fun _ _ _ => rfl, fun v h1 h2 => by omega⟩
  | k + 1, w, S, h, hw => by
    obtain ⟨g1, g2⟩ := mn1_spec h ha hb rc i n w
    obtain ⟨i1, i2, i3, i4, i5⟩ := mnW_spec ha hb rc i n hn k (w + 1) (mn1 S rc i n a b w) (mn1_fr h ha hb rc i n w) (by omega)
    have t1 : ∀ q, q < 64 → tb ((mn1 S rc i n a b w).2 139 9) q = (tb (S.2 139 9) q || (decide (q = n * 3 + w) && uC C0 i a b n w)) := fun q hq => by
      rw [g2]
      unfold uC
      by_cases e : mnSide C0 i n w a b = -1
      · rw [if_pos e, if_pos ⟨rfl, rfl⟩, tb_or, tb_b64 (by omega) hq]; simp [e]
      · rw [if_neg e, if_neg (by omega)]; simp [e]
    rw [mnW]
    refine ⟨i1, fun c => ?_, fun c hc => ?_, fun q hq h2 => ?_, fun v h1 h2 => ?_⟩
    · rw [i2, g1, if_neg (by omega)]
    · obtain ⟨j1, j2⟩ := i3 c (by omega)
      rw [j1, j2, g1, g2, if_neg (by omega), if_neg (show ¬ (122 = 139 ∧ c = 9) by omega), if_neg (show ¬ (122 = 122 ∧ c = n * 3 + w) by omega)]
      exact ⟨rfl, by split <;> rfl⟩
    · rw [i4 q hq (by omega), t1 q hq]
      have : decide (q = n * 3 + w) = false := by simp; omega
      rw [this]; simp
    · by_cases e : v = w
      · subst e
        obtain ⟨j1, j2⟩ := i3 (n * 3 + v) (by omega)
        rw [i4 (n * 3 + v) (by omega) (by omega), t1 _ (by omega), j1, j2]
        refine ⟨by simp, fun hu => ?_, fun hu => ?_⟩
        · have hu' : ¬ mnSide C0 i n v a b = -1 := of_decide_eq_false hu
          rw [g1, g2, if_pos ⟨rfl, rfl, hu'⟩, if_neg hu', if_pos (show 122 = 122 ∧ n * 3 + v = n * 3 + v from ⟨rfl, rfl⟩)]
          exact ⟨rfl, rfl⟩
        · have hu' : mnSide C0 i n v a b = -1 := of_decide_eq_true hu
          rw [g1, if_neg (fun z => z.2.2 hu')]
      · obtain ⟨k1, k2, k3⟩ := i5 v (by omega) (by omega)
        rw [k1, t1 _ (by omega)]
        have : decide (n * 3 + v = n * 3 + w) = false := by simp; omega
        refine ⟨by rw [this]; simp, k2, fun hu => ?_⟩
        rw [k3 hu, g1, if_neg (by omega)]
/-- what a node of the merged tree is in the class -/
def CN (C0 T : SS) (n : Nat) (u : Nat → Bool) (f : Nat → Nat) (mk : Nat → Int64) : Prop :=
  ∀ w, w < 3 → tb (T.2 139 9) (n * 3 + w) = u w ∧ (u w = false → T.1 121 (n * 3 + w) = C0.1 (3 * f w + 1) (n * 3 + w) ∧ T.2 122 (n * 3 + w) = mk w) ∧ (u w = true → w = 0 → T.1 121 (n * 3) = -1)
/-- and in the reference -/
def MN (M0 T : SS) (n : Nat) (u : Nat → Bool) (f : Nat → Nat) (mk : Nat → Int64) : Prop :=
  (∀ w, w < 3 → ti (T.1 19 n) w = u w ∧ (u w = false → T.2 9 (2016 + (3 * n + w)) = mk w)) ∧ (∀ x, 5 ≤ x → x ≤ 8 → u (x - 6) = false → T.1 x (672 + n) = M0.1 x (16 * f (x - 6) + n))
theorem mnS_spec {S C0 : SS} (h : Fr S C0) {a b : Nat} (ha : a < 40) (hb : b < 40) (rc i n : Nat) (h1 : 1 ≤ n) (hn : n < 16) (hz : ∀ w, w < 3 → tb (S.2 139 9) (n * 3 + w) = false) :
    Fr (mnS S rc i n a b) C0 ∧ (mnS S rc i n a b).1 120 0 = S.1 120 0 ||| (nI 1 <<< (nI n &&& 31)) ∧ (∀ c, (c < n * 3 ∨ n * 3 + 3 ≤ c) → (mnS S rc i n a b).1 121 c = S.1 121 c ∧ (mnS S rc i n a b).2 122 c = S.2 122 c) ∧
    (∀ q, q < 64 → (q < n * 3 ∨ n * 3 + 3 ≤ q) → tb ((mnS S rc i n a b).2 139 9) q = tb (S.2 139 9) q) ∧ CN C0 (mnS S rc i n a b) n (uC C0 i a b n) (fC C0 i a b n) (kC C0 rc i a b n) := by
  have hp := plantS_1 S 40 n (-1)
  have hfr : Fr (plantS S 40 n (-1)) C0 := ⟨fun x c q1 q2 => by rw [hp, if_neg (by omega), if_neg (by omega), if_neg (by omega)]; exact h.1 x c q1 q2, fun x c q1 q2 => h.2 x c q1 q2⟩
  obtain ⟨i1, i2, i3, i4, i5⟩ := mnW_spec ha hb rc i n hn 3 0 (plantS S 40 n (-1)) hfr (by omega)
  unfold mnS
  refine ⟨i1, ?_, fun c hc => ?_, fun q hq h2 => ?_, fun w hw => ?_⟩
  · rw [i2, hp, if_pos ⟨rfl, rfl⟩]
  · obtain ⟨j1, j2⟩ := i3 c (by omega)
    rw [j1, j2, hp, if_neg (by omega), if_neg (by omega), if_neg (by omega)]
    exact ⟨rfl, rfl⟩
  · rw [i4 q hq (by omega)]; rfl
  · obtain ⟨k1, k2, k3⟩ := i5 w (by omega) (by omega)
    refine ⟨?_, k2, fun hu e => ?_⟩
    · rw [k1]
      show (tb (S.2 139 9) (n * 3 + w) || _) = _
      rw [hz w hw]; simp
    · subst e
      have := k3 hu
      rw [Nat.add_zero] at this
      rw [this, hp, if_neg (by omega), if_pos (by omega)]
theorem cnG_spec {S C0 : SS} {u : Nat} (hu : u < 40) (n : Nat) (hn : n < 16) : ∀ (k w : Nat) (S : SS), Fr S C0 → w + k ≤ 3 → Fr (cnG 40 u n k w S) C0 ∧ (∀ c, (cnG 40 u n k w S).1 120 c = S.1 120 c) ∧ (cnG 40 u n k w S).2 139 = S.2 139 ∧
    (∀ c, (c < n * 3 + w ∨ n * 3 + w + k ≤ c) → (cnG 40 u n k w S).1 121 c = S.1 121 c ∧ (cnG 40 u n k w S).2 122 c = S.2 122 c) ∧ ∀ v, w ≤ v → v < w + k → (cnG 40 u n k w S).1 121 (n * 3 + v) = C0.1 (3 * u + 1) (n * 3 + v) ∧ (cnG 40 u n k w S).2 122 (n * 3 + v) = C0.2 (3 * u + 2) (n * 3 + v)
  | 0, w, S, h, _ => ⟨h, fun _ => rfl, rfl, fun _ _ => ⟨rfl, rfl⟩, fun v h1 h2 => by omega⟩
  | k + 1, w, S, h, hw => by
    rw [cnG, s1_2]
    generalize hT : s2 (s1 S (3 * 40 + 1) (n * 3 + w) (S.1 (3 * u + 1) (n * 3 + w))) (3 * 40 + 2) (n * 3 + w) (S.2 (3 * u + 2) (n * 3 + w)) = T
    have t1 : ∀ x c, T.1 x c = if x = 121 ∧ c = n * 3 + w then C0.1 (3 * u + 1) (n * 3 + w) else S.1 x c := fun x c => by rw [← hT, s2_1, s1_at, h.1 (3 * u + 1) _ (by omega) (by omega)]
    have t2 : ∀ x c, T.2 x c = if x = 122 ∧ c = n * 3 + w then C0.2 (3 * u + 2) (n * 3 + w) else S.2 x c := fun x c => by rw [← hT, s2_at, s1_2, h.2 (3 * u + 2) _ (by omega) (by omega)]
    have hfr : Fr T C0 := ⟨fun x c q1 q2 => by rw [t1, if_neg (by omega)]; exact h.1 x c q1 q2, fun x c q1 q2 => by rw [t2, if_neg (by omega)]; exact h.2 x c q1 q2⟩
    obtain ⟨i1, i2, i3, i4, i5⟩ := cnG_spec (S := S) hu n hn k (w + 1) T hfr (by omega)
    refine ⟨i1, fun c => ?_, ?_, fun c hc => ?_, fun v h1 h2 => ?_⟩
    · rw [i2, t1, if_neg (by omega)]
    · rw [i3]; funext c; rw [t2, if_neg (by omega)]
    · obtain ⟨j1, j2⟩ := i4 c (by omega)
      rw [j1, j2, t1, t2, if_neg (by omega), if_neg (by omega)]
      exact ⟨rfl, rfl⟩
    · by_cases e : v = w
      · subst e
        obtain ⟨j1, j2⟩ := i4 (n * 3 + v) (by omega)
        rw [j1, j2, t1, t2, if_pos ⟨rfl, rfl⟩, if_pos ⟨rfl, rfl⟩]
        exact ⟨rfl, rfl⟩
      · exact i5 v (by omega) (by omega)
theorem cnS_spec {S C0 : SS} (h : Fr S C0) {u : Nat} (hu : u < 40) (n : Nat) (h1 : 1 ≤ n) (hn : n < 16) (hz : ∀ w, w < 3 → tb (S.2 139 9) (n * 3 + w) = false) :
    Fr (cnS S 40 u n) C0 ∧ (cnS S 40 u n).1 120 0 = S.1 120 0 ||| (nI 1 <<< (nI n &&& 31)) ∧ (∀ c, (c < n * 3 ∨ n * 3 + 3 ≤ c) → (cnS S 40 u n).1 121 c = S.1 121 c ∧ (cnS S 40 u n).2 122 c = S.2 122 c) ∧
    (∀ q, q < 64 → (q < n * 3 ∨ n * 3 + 3 ≤ q) → tb ((cnS S 40 u n).2 139 9) q = tb (S.2 139 9) q) ∧ CN C0 (cnS S 40 u n) n (fun _ => false) (fun _ => u) (fun w => C0.2 (3 * u + 2) (n * 3 + w)) := by
  have hfr : Fr (s1 S (3 * 40) 0 (S.1 (3 * 40) 0 ||| (nI 1 <<< (nI n &&& 31)))) C0 := ⟨fun x c q1 q2 => by rw [s1_o _ _ _ _ (by omega)]; exact h.1 x c q1 q2, fun x c q1 q2 => h.2 x c q1 q2⟩
  obtain ⟨i1, i2, i3, i4, i5⟩ := cnG_spec (S := S) hu n hn 3 0 _ hfr (by omega)
  unfold cnS
  refine ⟨i1, ?_, fun c hc => ?_, fun q hq h2 => ?_, fun w hw => ⟨?_, fun _ => i5 w (by omega) (by omega), fun z => by cases z⟩⟩
  · rw [i2, s1_h]
  · obtain ⟨j1, j2⟩ := i4 c (by omega)
    rw [j1, j2, s1_o _ _ _ _ (by omega)]
    exact ⟨rfl, rfl⟩
  · rw [i3]; rfl
  · rw [i3]; exact hz w hw
theorem cvM_1 (S : SS) {f t : Nat} (hft : f ≠ t) {n k : Nat} (hk : k < 3) (hn : n < 16) (x c : Nat) : (cvM S f t n k).1 x c = if ((5 ≤ x ∧ x ≤ 8) ∧ x - 6 = k) ∧ c = 16 * t + n then S.1 x (16 * f + n) else S.1 x c := by
  unfold cvM
  rcases (show k = 0 ∨ k = 1 ∨ k = 2 by omega) with rfl | rfl | rfl
  · rw [if_pos rfl, cp1_1, cp1_1, cp1_1]
    by_cases h : ((5 ≤ x ∧ x ≤ 8) ∧ x - 6 = 0) ∧ c = 16 * t + n
    · rw [if_pos h]
      rcases (show x = 5 ∨ x = 6 by omega) with rfl | rfl
      · rw [if_neg (show ¬ (5 = 6 ∧ c = 16 * t + n) by omega), if_pos (show 5 = 5 ∧ c = 16 * t + n from ⟨rfl, h.2⟩)]
      · rw [if_pos (show 6 = 6 ∧ c = 16 * t + n from ⟨rfl, h.2⟩), if_neg (show ¬ (6 = 5 ∧ 16 * f + n = 16 * t + n) by omega)]
    · rw [if_neg h, if_neg (show ¬ (x = 6 ∧ c = 16 * t + n) by omega), if_neg (show ¬ (x = 5 ∧ c = 16 * t + n) by omega)]
  · rw [if_neg (by decide), if_pos rfl, cp1_1]
    by_cases h : ((5 ≤ x ∧ x ≤ 8) ∧ x - 6 = 1) ∧ c = 16 * t + n
    · have : x = 7 := by omega
      subst this
      rw [if_pos h, if_pos ⟨rfl, h.2⟩]
    · rw [if_neg h, if_neg (by omega)]
  · rw [if_neg (by decide), if_neg (by decide), cp1_1]
    by_cases h : ((5 ≤ x ∧ x ≤ 8) ∧ x - 6 = 2) ∧ c = 16 * t + n
    · have : x = 8 := by omega
      subst this
      rw [if_pos h, if_pos ⟨rfl, h.2⟩]
    · rw [if_neg h, if_neg (by omega)]
theorem cvM_2 (S : SS) (f t n k : Nat) : (cvM S f t n k).2 = S.2 := by
  unfold cvM
  split
  · rfl
  · split <;> rfl
theorem mltG_fr {S M0 : SS} (h : ∀ c, S.2 1 c = M0.2 1 c) (x : Int64) : ∀ (k r : Nat) (a : Int64), mltG S x k r a = mltG M0 x k r a
  | 0, _, _ => rfl
  | k + 1, r, a => by rw [mltG, mltG, h, mltG_fr h x k]
theorem itI_fr {S M0 : SS} (h : FrM S M0) {a b n k : Nat} (ha : a < 40) (hb : b < 40) (hn : n < 16) (hk : k < 3) : itI S a b n k = itI M0 a b n k := by
  have hs : sameM S a b n k = sameM M0 a b n k := by
    unfold sameM
    rw [h.1 5 _ (by omega) (by omega) (by omega), h.1 5 _ (by omega) (by omega) (by omega), h.1 6 _ (by omega) (by omega) (by omega), h.1 6 _ (by omega) (by omega) (by omega), h.1 7 _ (by omega) (by omega) (by omega), h.1 7 _ (by omega) (by omega) (by omega), h.1 8 _ (by omega) (by omega) (by omega), h.1 8 _ (by omega) (by omega) (by omega)]
  have hk' : ∀ x r, mAK S x r = mAK M0 x r := fun x r => by unfold mAK; rw [h.2 1 r (by omega)]
  unfold itI
  rw [hs, hk', hk', h.2 9 _ (by omega), h.2 9 _ (by omega)]
theorem msO_fr {S M0 : SS} (h : FrM S M0) {a b n k : Nat} (ha : a < 40) (hb : b < 40) (hn : n < 16) (hk : k < 3) : msO S a b n k = msO M0 a b n k := by
  unfold msO
  rw [itI_fr h ha hb hn hk, h.2 9 _ (by omega), h.2 9 _ (by omega), mltG_fr (fun c => h.2 1 c (by omega))]
def uM (M0 : SS) (i a b n k : Nat) : Bool := decide (¬ 0 ≤ M0.1 12 (48 * i + 3 * n + k) ∧ ¬ 0 ≤ itI M0 a b n k)
def kM (M0 : SS) (r i a b n k : Nat) : Int64 := if M0.1 12 (48 * i + 3 * n + k) < 0 ∨ itI M0 a b n k = nI 2 ∨ itI M0 a b n k = M0.1 12 (48 * i + 3 * n + k) then msO M0 a b n k else b64 r
theorem msF_lt {M0 : SS} {i a b n k : Nat} (ha : a < 40) (hb : b < 40) : msF M0 i a b n k < 40 := by
  unfold msF
  repeat' split
  all_goals assumption
theorem msS_spec {S M0 : SS} (h : FrM S M0) {a b : Nat} (ha : a < 40) (hb : b < 40) (r i : Nat) {n k : Nat} (hn : n < 16) (hk : k < 3) :
    (∀ x c, (msS S i a b n k r).1 x c = if uM M0 i a b n k = true then (if x = 19 ∧ c = n then S.1 19 n ||| (nI 1 <<< (nI k &&& 31)) else S.1 x c) else (if ((5 ≤ x ∧ x ≤ 8) ∧ x - 6 = k) ∧ c = 16 * 42 + n then M0.1 x (16 * msF M0 i a b n k + n) else S.1 x c)) ∧
    (∀ x c, (msS S i a b n k r).2 x c = if uM M0 i a b n k = true then S.2 x c else (if x = 9 ∧ c = 2016 + (3 * n + k) then kM M0 r i a b n k else S.2 x c)) := by
  have e12 : S.1 12 (48 * i + 3 * n + k) = M0.1 12 (48 * i + 3 * n + k) := h.1 _ _ (by omega) (by omega) (by omega)
  have eF : msF S i a b n k = msF M0 i a b n k := by unfold msF; rw [e12, itI_fr h ha hb hn hk]
  unfold msS
  rw [e12, itI_fr h ha hb hn hk, eF, msO_fr h ha hb hn hk]
  by_cases q : ¬ 0 ≤ M0.1 12 (48 * i + 3 * n + k) ∧ ¬ 0 ≤ itI M0 a b n k
  · have hu : uM M0 i a b n k = true := decide_eq_true q
    rw [if_pos q]
    exact ⟨fun x c => by rw [if_pos hu, s1_at], fun x c => by rw [if_pos hu, s1_2]⟩
  · have hu : ¬ uM M0 i a b n k = true := fun z => q (of_decide_eq_true z)
    rw [if_neg q]
    have hf := msF_lt (M0 := M0) (i := i) (n := n) (k := k) ha hb
    refine ⟨fun x c => ?_, fun x c => ?_⟩
    · rw [if_neg hu, s2_1, cvM_1 S (by omega) hk hn]
      by_cases z : ((5 ≤ x ∧ x ≤ 8) ∧ x - 6 = k) ∧ c = 16 * 42 + n
      · rw [if_pos z, if_pos z, h.1 x _ (by omega) (by omega) (by omega)]
      · rw [if_neg z, if_neg z]
    · rw [if_neg hu, s2_at, cvM_2]; rfl
theorem msS_fr {S M0 : SS} (h : FrM S M0) {a b : Nat} (ha : a < 40) (hb : b < 40) (r i : Nat) {n k : Nat} (hn : n < 16) (hk : k < 3) : FrM (msS S i a b n k r) M0 := by
  obtain ⟨g1, g2⟩ := msS_spec h ha hb r i hn hk
  refine ⟨fun x c q1 q2 q3 => ?_, fun x c q1 => ?_⟩
  · rw [g1, if_neg (show ¬ (x = 19 ∧ c = n) by omega), if_neg (show ¬ (((5 ≤ x ∧ x ≤ 8) ∧ x - 6 = k) ∧ c = 16 * 42 + n) by omega)]
    split <;> exact h.1 x c q1 q2 q3
  · rw [g2, if_neg (show ¬ (x = 9 ∧ c = 2016 + (3 * n + k)) by omega)]
    split <;> exact h.2 x c q1
theorem mmW_spec {M0 : SS} {a b : Nat} (ha : a < 40) (hb : b < 40) (r i : Nat) {n : Nat} (hn : n < 16) : ∀ (k w : Nat) (S : SS), FrM S M0 → w + k ≤ 3 →
    FrM (mmW i a b n r k w S) M0 ∧ (∀ c, (mmW i a b n r k w S).1 4 c = S.1 4 c) ∧ (∀ m, m ≠ n → (mmW i a b n r k w S).1 19 m = S.1 19 m) ∧ (∀ x c, 5 ≤ x → x ≤ 8 → ¬ (c = 672 + n ∧ w ≤ x - 6 ∧ x - 6 < w + k) → (mmW i a b n r k w S).1 x c = S.1 x c) ∧ (∀ c, ¬ (2016 + (3 * n + w) ≤ c ∧ c < 2016 + (3 * n + w + k)) → (mmW i a b n r k w S).2 9 c = S.2 9 c) ∧
    (∀ v, v < 3 → ti ((mmW i a b n r k w S).1 19 n) v = (ti (S.1 19 n) v || (decide (w ≤ v ∧ v < w + k) && uM M0 i a b n v))) ∧
    (∀ v, w ≤ v → v < w + k → uM M0 i a b n v = false → (mmW i a b n r k w S).2 9 (2016 + (3 * n + v)) = kM M0 r i a b n v ∧ ∀ x, 5 ≤ x → x ≤ 8 → x - 6 = v → (mmW i a b n r k w S).1 x (672 + n) = M0.1 x (16 * msF M0 i a b n v + n))
  | 0, w, S, h, _ => ⟨h, fun _ => rfl, fun _ _ => rfl, fun _ _ _ _ _ => rfl, fun _ _ => rfl, fun v hv => by
      have : decide (w ≤ v ∧ v < w + 0) = false := decide_eq_false (by omega)
      rw [mmW, this]; simp, fun v h1 h2 => by omega⟩
  | k + 1, w, S, h, hw => by
    obtain ⟨g1, g2⟩ := msS_spec h ha hb r i hn (show w < 3 by omega)
    obtain ⟨i1, i2, i3, i4, i5, i6, i7⟩ := mmW_spec ha hb r i hn k (w + 1) (msS S i a b n w r) (msS_fr h ha hb r i hn (by omega)) (by omega)
    have go : ∀ x c, ¬ (x = 19 ∧ c = n) → ¬ (((5 ≤ x ∧ x ≤ 8) ∧ x - 6 = w) ∧ c = 16 * 42 + n) → (msS S i a b n w r).1 x c = S.1 x c := fun x c q1 q2 => by
      rw [g1, if_neg q1, if_neg q2]; split <;> rfl
    have g2o : ∀ x c, ¬ (x = 9 ∧ c = 2016 + (3 * n + w)) → (msS S i a b n w r).2 x c = S.2 x c := fun x c q => by
      rw [g2, if_neg q]; split <;> rfl
    rw [mmW]
    refine ⟨i1, fun c => ?_, fun m hm => ?_, fun x c q1 q2 q3 => ?_, fun c hc => ?_, fun v hv => ?_, fun v h1 h2 hu => ?_⟩
    · rw [i2, go _ _ (by omega) (by omega)]
    · rw [i3 m hm, go _ _ (by omega) (by omega)]
    · rw [i4 x c q1 q2 (by omega), go _ _ (by omega) (by omega)]
    · rw [i5 c (by omega), g2o _ _ (by omega)]
    · rw [i6 v hv]
      have e19 : ti ((msS S i a b n w r).1 19 n) v = (ti (S.1 19 n) v || (decide (v = w) && uM M0 i a b n w)) := by
        rw [g1]
        cases hu : uM M0 i a b n w with
        | false => rw [if_neg (by decide), if_neg (by omega)]; simp
        | true => rw [if_pos rfl, if_pos ⟨rfl, rfl⟩, ti_or, ti_one (by omega) (by omega)]; simp
      rw [e19]
      by_cases e : v = w
      · subst e
        have d1 : decide (v + 1 ≤ v ∧ v < v + 1 + k) = false := decide_eq_false (by omega)
        have d2 : decide (v ≤ v ∧ v < v + (k + 1)) = true := by simp
        rw [d1, d2]; simp
      · have d1 : decide (w + 1 ≤ v ∧ v < w + 1 + k) = decide (w ≤ v ∧ v < w + (k + 1)) := by
          rw [decide_eq_decide]; omega
        rw [d1]; simp [e]
    · by_cases e : v = w
      · subst e
        have hu' : ¬ uM M0 i a b n v = true := by rw [hu]; decide
        refine ⟨?_, fun x q1 q2 q3 => ?_⟩
        · rw [i5 _ (by omega), g2, if_neg hu', if_pos ⟨rfl, rfl⟩]
        · rw [i4 x _ q1 q2 (by omega), g1, if_neg hu', if_pos (show ((5 ≤ x ∧ x ≤ 8) ∧ x - 6 = v) ∧ 672 + n = 16 * 42 + n by omega)]
      · exact i7 v (by omega) (by omega) hu
theorem mcn_fr {S M0 : SS} (h : FrM S M0) {f n : Nat} (hf : f < 40) (hn : n < 16) : FrM (mcn S f 42 n) M0 ∧ (∀ c, (mcn S f 42 n).1 4 c = S.1 4 c) ∧ (∀ c, (mcn S f 42 n).1 19 c = S.1 19 c) ∧ (∀ x c, 5 ≤ x → x ≤ 8 → c ≠ 672 + n → (mcn S f 42 n).1 x c = S.1 x c) ∧ (∀ c, ¬ (2016 + 3 * n ≤ c ∧ c < 2016 + 3 * n + 3) → (mcn S f 42 n).2 9 c = S.2 9 c) ∧
    (∀ x, 5 ≤ x → x ≤ 8 → (mcn S f 42 n).1 x (672 + n) = M0.1 x (16 * f + n)) ∧ (∀ w, w < 3 → (mcn S f 42 n).2 9 (2016 + (3 * n + w)) = M0.2 9 (48 * f + 3 * n + w)) := by
  have h1 := mcn_1 (f := f) (t := 42) S (by omega) hn
  have h2 := mcn_2 (f := f) (t := 42) S (by omega) hn
  refine ⟨⟨fun x c q1 q2 q3 => ?_, fun x c q => ?_⟩, fun c => ?_, fun c => ?_, fun x c q1 q2 q3 => ?_, fun c hc => ?_, fun x q1 q2 => ?_, fun w hw => ?_⟩
  · rw [h1, if_neg (by omega)]; exact h.1 x c q1 q2 q3
  · rw [h2, if_neg (by omega)]; exact h.2 x c q
  · rw [h1, if_neg (by omega)]
  · rw [h1, if_neg (by omega)]
  · rw [h1, if_neg (by omega)]
  · rw [h2, if_neg (by omega)]
  · rw [h1, if_pos (by omega), h.1 x _ (by omega) (by omega) (by omega)]
  · rw [h2, if_pos (by omega), h.2 9 _ (by omega)]
    exact congrArg _ (by omega)
/-- a node's turn in the reference's merge -/
theorem mmI0_spec {S M0 : SS} (h : FrM S M0) {a b : Nat} (ha : a < 40) (hb : b < 40) (r i : Nat) {n : Nat} (hn : n < 16) :
    FrM (mmI0 i a b r n S) M0 ∧ (∀ c, (mmI0 i a b r n S).1 4 c = S.1 4 c) ∧ (∀ m, m ≠ n → (mmI0 i a b r n S).1 19 m = S.1 19 m) ∧ (∀ x c, 5 ≤ x → x ≤ 8 → c ≠ 672 + n → (mmI0 i a b r n S).1 x c = S.1 x c) ∧ (∀ c, ¬ (2016 + 3 * n ≤ c ∧ c < 2016 + 3 * n + 3) → (mmI0 i a b r n S).2 9 c = S.2 9 c) ∧
    (ti (S.1 4 42) n = true → ti (M0.1 4 a) n = true → ti (M0.1 4 b) n = true → MN M0 (mmI0 i a b r n S) n (uM M0 i a b n) (msF M0 i a b n) (kM M0 r i a b n)) ∧
    (ti (S.1 4 42) n = true → ti (M0.1 4 a) n = true → ti (M0.1 4 b) n = false → MN M0 (mmI0 i a b r n S) n (fun _ => false) (fun _ => a) (fun w => M0.2 9 (48 * a + 3 * n + w))) ∧
    (ti (S.1 4 42) n = true → ti (M0.1 4 a) n = false → MN M0 (mmI0 i a b r n S) n (fun _ => false) (fun _ => b) (fun w => M0.2 9 (48 * b + 3 * n + w))) := by
  have hfr : FrM (s1 S 19 n (nI 0)) M0 := ⟨fun x c q1 q2 q3 => by rw [s1_o _ _ _ _ (by omega)]; exact h.1 x c q1 q2 q3, fun x c q => h.2 x c q⟩
  have e4 : ∀ c, (s1 S 19 n (nI 0)).1 4 c = S.1 4 c := fun c => s1_o _ _ _ _ (by omega)
  have e4a : S.1 4 a = M0.1 4 a := h.1 _ _ (by omega) (by omega) (by omega)
  have e4b : S.1 4 b = M0.1 4 b := h.1 _ _ (by omega) (by omega) (by omega)
  unfold mmI0
  rw [e4]
  by_cases hA : ti (S.1 4 42) n = true
  · rw [if_pos hA]
    unfold mmI1
    rw [e4, e4a]
    by_cases h1 : ti (M0.1 4 a) n = true
    · rw [if_pos h1]
      obtain ⟨m1, m2, m3, m4, m5, m6, m7⟩ := mcn_fr hfr ha hn
      rw [m2, e4, e4b]
      by_cases h2 : ti (M0.1 4 b) n = true
      · rw [if_pos h2]
        obtain ⟨i1, i2, i3, i4, i5, i6, i7⟩ := mmW_spec ha hb r i hn 3 0 _ m1 (by omega)
        refine ⟨i1, fun c => by rw [i2, m2, e4], fun m hm => by rw [i3 m hm, m3, s1_o _ _ _ _ (by omega)], fun x c q1 q2 q3 => by rw [i4 x c q1 q2 (by omega), m4 x c q1 q2 q3, s1_o _ _ _ _ (by omega)], fun c hc => by rw [i5 c (by omega), m5 c hc, s1_2], fun _ _ _ => ⟨fun w hw => ⟨?_, fun hu => (i7 w (by omega) (by omega) hu).1⟩, fun x q1 q2 hu => (i7 (x - 6) (by omega) (by omega) hu).2 x q1 q2 rfl⟩, fun _ _ z => (by rw [h2] at z; cases z), fun _ z => (by rw [h1] at z; cases z)⟩
        rw [i6 w hw, m3, s1_h, ti_nI0 (by omega)]
        have : decide (0 ≤ w ∧ w < 0 + 3) = true := decide_eq_true (by omega)
        rw [this]; simp
      · rw [if_neg h2]
        refine ⟨m1, fun c => by rw [m2, e4], fun m hm => by rw [m3, s1_o _ _ _ _ (by omega)], fun x c q1 q2 q3 => by rw [m4 x c q1 q2 q3, s1_o _ _ _ _ (by omega)], fun c hc => by rw [m5 c hc, s1_2], fun _ _ z => absurd z h2, fun _ _ _ => ⟨fun w hw => ⟨by rw [m3, s1_h, ti_nI0 (by omega)], fun _ => m7 w hw⟩, fun x q1 q2 _ => m6 x q1 q2⟩, fun _ z => (by rw [h1] at z; cases z)⟩
    · rw [if_neg h1]
      obtain ⟨m1, m2, m3, m4, m5, m6, m7⟩ := mcn_fr hfr hb hn
      refine ⟨m1, fun c => by rw [m2, e4], fun m hm => by rw [m3, s1_o _ _ _ _ (by omega)], fun x c q1 q2 q3 => by rw [m4 x c q1 q2 q3, s1_o _ _ _ _ (by omega)], fun c hc => by rw [m5 c hc, s1_2], fun _ z => absurd z h1, fun _ z => absurd z h1, fun _ _ => ⟨fun w hw => ⟨by rw [m3, s1_h, ti_nI0 (by omega)], fun _ => m7 w hw⟩, fun x q1 q2 _ => m6 x q1 q2⟩⟩
  · rw [if_neg hA]
    exact ⟨hfr, e4, fun m hm => s1_o _ _ _ _ (by omega), fun x c q1 q2 q3 => s1_o _ _ _ _ (by omega), fun c _ => rfl, fun z => absurd z hA, fun z => absurd z hA, fun z => absurd z hA⟩
/-! the two agree on each scalar -/
theorem R_own {C M : SS} {rc nc : Nat} (h : RR C M rc nc) {a b n w : Nat} (ha : a < rc) (hb : b < rc) (h1 : 1 ≤ n) (hn : n < 16) (hw : w < 3) (hA : ti (C.1 (3 * a) 0) n = true) (hB : ti (C.1 (3 * b) 0) n = true) : osI C n w a b = itI M a b n w := by
  have h40 := h.1.1.2.2.2.2.2.2.1
  have hs := R_same (h.2.2.1 a ha).1 (h.2.2.1 b hb).1 h1 hn hw hA hB
  unfold osI itI mAK
  rw [(h.2.2.1 a ha).2.1 n w h1 hn hw hA, (h.2.2.1 b hb).2.1 n w h1 hn hw hB, h.1.2.1 a (by omega), h.1.2.1 b (by omega)]
  refine if_of2 hs (fun _ => rfl) (fun _ => if_of2 (by rw [decide_eq_true_eq]) (fun _ => rfl) (fun _ => if_of2 (by rw [decide_eq_true_eq]) (fun _ => rfl) (fun _ => rfl)))
theorem itI_cases (M : SS) (a b n w : Nat) : itI M a b n w = nI 2 ∨ itI M a b n w = nI 1 ∨ itI M a b n w = nI 0 ∨ itI M a b n w = -1 := by
  unfold itI
  repeat' split
  all_goals simp
theorem R_dec {C M : SS} {rc nc : Nat} (h : RR C M rc nc) {i : Nat} (hi : i < 2) {n w : Nat} (hn : n < 16) (hw : w < 3) : C.1 (131 + 5 * i) (n * 3 + w) = M.1 12 (48 * i + 3 * n + w) ∧ (M.1 12 (48 * i + 3 * n + w) = -1 ∨ M.1 12 (48 * i + 3 * n + w) = nI 0 ∨ M.1 12 (48 * i + 3 * n + w) = nI 1) := by
  have := (h.2.1 i hi).2.2.2.2.2.1 (n * 3 + w) (by omega)
  rwa [show 48 * i + (n * 3 + w) = 48 * i + 3 * n + w by omega] at this
theorem c20 : ¬ nI 2 = nI 0 := by decide
theorem c21 : ¬ nI 2 = nI 1 := by decide
theorem c10 : ¬ nI 1 = nI 0 := by decide
theorem c01 : ¬ nI 0 = nI 1 := by decide
theorem R_scal {C M : SS} {rc nc : Nat} (h : RR C M rc nc) {i a b n w : Nat} (hi : i < 2) (ha : a < rc) (hb : b < rc) (h1 : 1 ≤ n) (hn : n < 16) (hw : w < 3) (hA : ti (C.1 (3 * a) 0) n = true) (hB : ti (C.1 (3 * b) 0) n = true) :
    uC C i a b n w = uM M i a b n w ∧ (uC C i a b n w = false → fC C i a b n w = msF M i a b n w ∧ kC C rc i a b n w = kM M rc i a b n w) := by
  have ho := R_own h ha hb h1 hn hw hA hB
  obtain ⟨hd, hd2⟩ := R_dec h hi hn hw
  have hcs := itI_cases M a b n w
  have hma := (h.2.2.1 a ha).2.1 n w h1 hn hw hA
  have hmb := (h.2.2.1 b hb).2.1 n w h1 hn hw hB
  have hk : kC C rc i a b n w = mmI C rc n w a b (itI M a b n w) (mnSide C i n w a b) := by unfold kC; rw [ho]
  have hs : mnSide C i n w a b = if M.1 12 (48 * i + 3 * n + w) = -1 then itI M a b n w else M.1 12 (48 * i + 3 * n + w) := by unfold mnSide; rw [hd, ho]
  have hmm : ∀ o s, mmI C rc n w a b o s = if o = nI 2 then mltG M (M.2 9 (48 * a + (3 * n + w)) ||| M.2 9 (48 * b + (3 * n + w))) 40 0 (M.2 9 (48 * a + (3 * n + w)) ||| M.2 9 (48 * b + (3 * n + w))) else if o = s then (if s = nI 1 then M.2 9 (48 * b + (3 * n + w)) else M.2 9 (48 * a + (3 * n + w))) else b64 rc := fun o s => by
    unfold mmI
    rw [hma, hmb, R_lt h.1, ← Nat.add_assoc, ← Nat.add_assoc]
  unfold uC uM fC msF kM
  rw [hk, hmm, hs]
  unfold msO
  have g0 : (0 : Int32) ≤ nI 0 := by decide
  have g1 : (0 : Int32) ≤ nI 1 := by decide
  have g2 : (0 : Int32) ≤ nI 2 := by decide
  have gm : ¬ (0 : Int32) ≤ -1 := by decide
  rcases hd2 with e | e | e <;> rcases hcs with o | o | o | o <;> rw [e, o] <;> refine ⟨by decide, fun hu => ⟨?_, ?_⟩⟩
  all_goals first | (exfalso; revert hu; decide) | rfl | skip
