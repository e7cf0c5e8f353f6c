/-! THE REFERENCE'S MERGE, as its code goes -/
def maC (S : SS) (i a b n j : Nat) : Bool := ((ti (S.1 4 a) n && ti (S.1 4 b) n) || (ti (S.1 4 a) n && !mKn S j b) || (ti (S.1 4 b) n && !mKn S j a)) && !ti (S.1 13 i) n
def maG (S : SS) (bi : Nat → Nat) (i a b : Nat) : Nat → Nat → Int32 → Int32
  | 0, _, x => x
  | k + 1, n, x => maG S bi i a b k (n + 1) (if maC S i a b n (bi n) = true then x ||| (nI 1 <<< (nI n &&& 31)) else x)
def msO (S : SS) (a b n k : Nat) : Int64 :=
  if itI S a b n k = nI 2 then mltG S (S.2 9 (48 * a + (3 * n + k)) ||| S.2 9 (48 * b + (3 * n + k))) 40 0 (S.2 9 (48 * a + (3 * n + k)) ||| S.2 9 (48 * b + (3 * n + k)))
  else if itI S a b n k = 0 then S.2 9 (48 * a + (3 * n + k)) else S.2 9 (48 * b + (3 * n + k))
def msF (S : SS) (i a b n k : Nat) : Nat :=
  if 0 ≤ S.1 12 (48 * i + 3 * n + k) then (if S.1 12 (48 * i + 3 * n + k) = 0 then a else b) else if itI S a b n k = nI 1 then b else a
def msS (S : SS) (i a b n k r : Nat) : SS :=
  if ¬ 0 ≤ S.1 12 (48 * i + 3 * n + k) ∧ ¬ 0 ≤ itI S a b n k then s1 S 19 n (S.1 19 n ||| (nI 1 <<< (nI k &&& 31)))
  else s2 (cvM S (msF S i a b n k) 42 n k) 9 (2016 + (3 * n + k)) (if S.1 12 (48 * i + 3 * n + k) < 0 ∨ itI S a b n k = nI 2 ∨ itI S a b n k = S.1 12 (48 * i + 3 * n + k) then msO S a b n k else b64 r)
theorem i_nge {x : Int32} (h : ¬ 0 ≤ x) : x < 0 := Int32.not_le.mp h
theorem i_nlt {x : Int32} (h : 0 ≤ x) : ¬ x < 0 := Int32.not_lt.mpr h
def mlcW (i n : Nat) : Nat → Nat → SS × Nat → SS × Nat
  | 0, _, q => q
  | k + 1, w, q => mlcW i n k (w + 1) (if ti (q.1.1 19 n) w = true then (mliS q.1 i q.2 (nI n) (nI w), q.2 + 1) else q)
def twC (S : SS) (n m : Nat) : Bool := ti (S.1 4 42) m && !ti (S.1 19 m) 0 && (S.1 5 (672 + m) == S.1 5 (672 + n)) && (S.1 6 (672 + m) == S.1 6 (672 + n))
def twG (S : SS) (n : Nat) : Nat → Nat → Nat → Nat
  | 0, _, x => x
  | k + 1, m, x => twG S n k (m + 1) (if twC S n m = true then m else x)
def mpcK (S : SS) (n : Nat) : Nat :=
  if mAl S 42 (S.1 5 (672 + n)) = false then 3 else if 0 < twG S n (n - 1) 1 0 then 4 else if cbG S n 17 (S.1 5 (672 + n)) = true then 5 else 0
def mpcS (S : SS) (i c n : Nat) : SS := if mpcK S n = 0 then S else mliS S i c (nI n) (nI (mpcK S n))
def mlcF (i n : Nat) (q : SS × Nat) : SS × Nat := if ti (q.1.1 19 n) 0 = true then q else (mpcS q.1 i q.2 n, q.2 + (if mpcK q.1 n = 0 then 0 else 1))
def mlcI (i n : Nat) (q : SS × Nat) : SS × Nat := if ti (q.1.1 4 42) n = true then mlcF i n (mlcW i n 3 0 q) else q
def mlcG (i : Nat) : Nat → Nat → SS × Nat → SS × Nat
  | 0, _, q => q
  | k + 1, n, q => mlcG i k (n + 1) (mlcI i n q)
theorem mliS_c (S : SS) {i : Nat} (c : Nat) (x y : Int32) : (mliS S i c x y).1 16 i = nI (c + 1) := by
  unfold mliS; rw [s1_eq]; exact pk_us
theorem mliS_F (S : SS) (i c : Nat) (x y : Int32) {a : Nat} (h1 : a ≠ 16) (h2 : a ≠ 17) (h3 : a ≠ 18) : (mliS S i c x y).1 a = S.1 a := by
  unfold mliS; rw [s1_ne _ _ _ _ h1, s1_ne _ _ _ _ h3, s1_ne _ _ _ _ h2]
theorem mpcS_c {S : SS} {i c n : Nat} (hc : S.1 16 i = nI c) : (mpcS S i c n).1 16 i = nI (c + (if mpcK S n = 0 then 0 else 1)) := by
  unfold mpcS
  split
  · exact hc
  · exact mliS_c S c _ _
