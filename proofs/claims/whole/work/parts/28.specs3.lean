/-! WHAT THE CLASS'S OWN METHODS ANSWER -/
theorem rng_lt {x : Int32} {n : Nat} (h0 : ¬ x < 0) (h1 : x < nI n) (hn : n < 2 ^ 31) : ∃ j, j < n ∧ x = nI j := by
  rcases pk_ix x hn with h | h | h
  · exact absurd h h0
  · exact absurd h1 (Int32.not_lt.mpr h)
  · exact h
theorem rng_ge {x : Int32} {n : Nat} (h0 : ¬ x < 0) (h1 : ¬ nI n ≤ x) (hn : n < 2 ^ 31) : ∃ j, j < n ∧ x = nI j := by
  rcases pk_ix x hn with h | h | h
  · exact absurd h h0
  · exact absurd h h1
  · exact h
theorem rng_no0 {x : Int32} {n : Nat} (h : x < 0) (hn : n < 2 ^ 31) : ¬ ∃ j, j < n ∧ x = nI j := fun ⟨j, hj, e⟩ => absurd h (by rw [e]; exact nI_pos (by omega))
theorem rng_no1 {x : Int32} {n : Nat} (h : ¬ x < nI n) (hn : n < 2 ^ 31) : ¬ ∃ j, j < n ∧ x = nI j := fun ⟨j, hj, e⟩ => h (by rw [e]; exact nI_lt hj hn)
theorem rng_no2 {x : Int32} {n : Nat} (h : nI n ≤ x) (hn : n < 2 ^ 31) : ¬ ∃ j, j < n ∧ x = nI j := fun ⟨j, hj, e⟩ => absurd h (by rw [e]; exact nI_ge hj hn)
def b64 (k : Nat) : Int64 := 1 <<< ((nI k).toInt64 &&& 63)
def waG (S : SS) (x : Int64) : Nat → Nat → Int64 → Int64
  | 0, _, a => a
  | n + 1, r, a => waG S x n (r + 1) (if tb x r = true then a ||| S.2 141 r else a)
def ltG (S : SS) (x : Int64) : Nat → Nat → Int64 → Int64
  | 0, _, a => a
  | n + 1, r, a => ltG S x n (r + 1) (if tb x r = true then a &&& (S.2 141 r ^^^ (-1)) else a)
def mrS (S : SS) (rc i t : Nat) (x : Int64) : SS := s2 (cfS (s2 (s1 S 139 4 (nI (rc + 1))) 141 rc x) rc t) (129 + 5 * i) 0 ((cfS (s2 (s1 S 139 4 (nI (rc + 1))) 141 rc x) rc t).2 (129 + 5 * i) 0 ||| b64 rc)
