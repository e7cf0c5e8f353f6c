/-! WHAT THE TREES' METHODS ANSWER -/
def lowG (p : Nat → Bool) : Nat → Nat → Int32
  | 0, _ => -1
  | n + 1, i => if p i = true then nI i else lowG p n (i + 1)
def anyG (p : Nat → Bool) : Nat → Nat → Bool
  | 0, _ => false
  | n + 1, i => p i || anyG p n (i + 1)
def allG (p : Nat → Bool) : Nat → Nat → Bool
  | 0, _ => true
  | n + 1, i => p i && allG p n (i + 1)
def aliveB (S : SS) (t : Nat) (x : Int32) : Bool := decide (0 ≤ x.toInt ∧ x.toInt < 16) && ti (S.1 (3 * t) 0) x.toNatClampNeg
theorem aliveB_nI (S : SS) (t : Nat) {i : Nat} (h : i < 16) : aliveB S t (nI i) = ti (S.1 (3 * t) 0) i := by
  unfold aliveB
  rw [nI_toInt (by omega), nI_clamp (by omega)]
  have : (0 : Int) ≤ (i : Int) ∧ (i : Int) < 16 := by omega
  simp [this]
theorem aliveB_lo (S : SS) (t : Nat) {x : Int32} (h : x < 0) : aliveB S t x = false := by
  unfold aliveB
  have h1 : x.toInt < 0 := by simpa [Int32.lt_iff_toInt_lt] using h
  have : ¬ ((0 : Int) ≤ x.toInt ∧ x.toInt < 16) := by omega
  simp [this]
theorem aliveB_hi (S : SS) (t : Nat) {x : Int32} (h : nI 16 ≤ x) : aliveB S t x = false := by
  unfold aliveB
  have h1 : (16 : Int) ≤ x.toInt := by
    have := Int32.le_iff_toInt_le.mp h
    rwa [nI_toInt (by decide)] at this
  have : ¬ ((0 : Int) ≤ x.toInt ∧ x.toInt < 16) := by omega
  simp [this]
theorem aliveB_of {S : SS} {t : Nat} {x : Int32} (h : aliveB S t x = true) : ∃ i, i < 16 ∧ x = nI i := by
  rcases pk_ix x (n := 16) (by decide) with h1 | h1 | ⟨j, h1, h2⟩
  · rw [aliveB_lo S t h1] at h; cases h
  · rw [aliveB_hi S t h1] at h; cases h
  · exact ⟨j, h1, h2⟩
/-- the parent and the name of a place -/
def dP (v : Int32) : Int32 := if v = -1 then -1 else v / nI 10
def dN (v : Int32) : Int32 := if v = -1 then -1 else v - v / nI 10 * nI 10
def leadG (S : SS) (t : Nat) (to : Int32) : Nat → Int32 → Bool
  | 0, _ => false
  | n + 1, a => if aliveB S t a = true then (if a = to then true else leadG S t to n (dP (S.1 (3 * t + 1) (a.toNatClampNeg * 3)))) else false
def r1 (S : SS) (k : Nat) (F : Nat → Int32) : SS := (fun a => if a = k then F else S.1 a, S.2)
def r2 (S : SS) (k : Nat) (F : Nat → Int64) : SS := (S.1, fun a => if a = k then F else S.2 a)
theorem cL_r1 (G : GT) (S : SS) {k : Nat} (hk : k < 143) (F : Nat → Int32) {e : va_E} (he : cX G k F (S.2 k) = e) : (cL G S).set k (gA G k, e) = cL G (r1 S k F) := by
  rw [wl_set hk, ← he]
  congr 1
  funext a
  unfold va_up r1
  by_cases h : a = k
  · subst h; simp
  · simp [h]
theorem cL_r2 (G : GT) (S : SS) {k : Nat} (hk : k < 143) (F : Nat → Int64) {e : va_E} (he : cX G k (S.1 k) F = e) : (cL G S).set k (gA G k, e) = cL G (r2 S k F) := by
  rw [wl_set hk, ← he]
  congr 1
  funext a
  unfold va_up r2
  by_cases h : a = k
  · subst h; simp
  · simp [h]
theorem cp_Vr {G : GT} {S : SS} {t : Nat} (ht : t < 43) {H : Heap} {F : Nat → Int32} (h : va_P (gD G) vwCl ((cL G S).set (3 * t + 1) (gA G (3 * t + 1), .inl (gC G 0, 48, .inl F))) H) : cW G (r1 S (3 * t + 1) F) H := by
  unfold cW
  rw [← cL_r1 G S (by omega) F (cX_V G ht _ _)]
  exact h
theorem cp_Mr {G : GT} {S : SS} {t : Nat} (ht : t < 43) {H : Heap} {F : Nat → Int64} (h : va_P (gD G) vwCl ((cL G S).set (3 * t + 2) (gA G (3 * t + 2), .inl (gC G 1, 48, .inr (.inl F)))) H) : cW G (r2 S (3 * t + 2) F) H := by
  unfold cW
  rw [← cL_r2 G S (by omega) F (cX_M G ht _ _)]
  exact h
def plantS (S : SS) (t n : Nat) (x : Int32) : SS := s1 (s1 (s1 (s1 S (3 * t) 0 (S.1 (3 * t) 0 ||| (nI 1 <<< (nI n &&& 31)))) (3 * t + 1) (n * 3 + 0) x) (3 * t + 1) (n * 3 + 1) (nI 0)) (3 * t + 1) (n * 3 + 2) (nI 0)
def cnG (t u n : Nat) : Nat → Nat → SS → SS
  | 0, _, S => S
  | k + 1, w, S => cnG t u n k (w + 1) (s2 (s1 S (3 * t + 1) (n * 3 + w) (S.1 (3 * u + 1) (n * 3 + w))) (3 * t + 2) (n * 3 + w) ((s1 S (3 * t + 1) (n * 3 + w) (S.1 (3 * u + 1) (n * 3 + w))).2 (3 * u + 2) (n * 3 + w)))
def cnS (S : SS) (t u n : Nat) : SS := cnG t u n 3 0 (s1 S (3 * t) 0 (S.1 (3 * t) 0 ||| (nI 1 <<< (nI n &&& 31))))
def cfS (S : SS) (t u : Nat) : SS :=
  r2 (r1 (s1 S (3 * t) 0 (S.1 (3 * u) 0)) (3 * t + 1) (va_cpy ((s1 S (3 * t) 0 (S.1 (3 * u) 0)).1 (3 * u + 1)) ((s1 S (3 * t) 0 (S.1 (3 * u) 0)).1 (3 * t + 1)) 0 0 48)) (3 * t + 2) (va_cpy ((r1 (s1 S (3 * t) 0 (S.1 (3 * u) 0)) (3 * t + 1) (va_cpy ((s1 S (3 * t) 0 (S.1 (3 * u) 0)).1 (3 * u + 1)) ((s1 S (3 * t) 0 (S.1 (3 * u) 0)).1 (3 * t + 1)) 0 0 48)).2 (3 * u + 2)) ((r1 (s1 S (3 * t) 0 (S.1 (3 * u) 0)) (3 * t + 1) (va_cpy ((s1 S (3 * t) 0 (S.1 (3 * u) 0)).1 (3 * u + 1)) ((s1 S (3 * t) 0 (S.1 (3 * u) 0)).1 (3 * t + 1)) 0 0 48)).2 (3 * t + 2)) 0 0 48)
def sameB (S : SS) (t u : Nat) : Bool := if S.1 (3 * t) 0 = S.1 (3 * u) 0 then allG (fun j => allG (fun w => !ti (S.1 (3 * t) 0) j || (S.1 (3 * t + 1) (j * 3 + w) == S.1 (3 * u + 1) (j * 3 + w))) 3 0) 15 1 else false
