/-! WHAT THE PEERS' METHODS ANSWER -/
theorem s1_ne (S : SS) (k j : Nat) (x : Int32) {a : Nat} (h : a ≠ k) : (s1 S k j x).1 a = S.1 a := by simp [s1, h]
theorem s1_eq (S : SS) (k j : Nat) (x : Int32) : (s1 S k j x).1 k = upd (S.1 k) j x := by simp [s1]
theorem s1_2 (S : SS) (k j : Nat) (x : Int32) : (s1 S k j x).2 = S.2 := rfl
theorem s2_1 (S : SS) (k j : Nat) (x : Int64) : (s2 S k j x).1 = S.1 := rfl
theorem s2_ne (S : SS) (k j : Nat) (x : Int64) {a : Nat} (h : a ≠ k) : (s2 S k j x).2 a = S.2 a := by simp [s2, h]
theorem s2_eq (S : SS) (k j : Nat) (x : Int64) : (s2 S k j x).2 k = vp_updL (S.2 k) j x := by simp [s2]
def memG (S : SS) (i b : Nat) : Nat → Nat → Int64 → Int64
  | 0, _, x => x
  | n + 1, k, x => memG S i b n (k + 1) (if ti (S.1 (129 + 5 * i) 2) k = true then x ||| S.2 (130 + 5 * i) (k * 3 + b) else x)
def fillG (q : Nat) (x : Int32) : Nat → Nat → SS → SS
  | 0, _, S => S
  | n + 1, j, S => fillG q x n (j + 1) (s1 S q j x)
/-- Long.bitCount, as its code goes -/
def bcA (x : Int64) : Int64 := x - ((x.toUInt64 >>> ((nI 1).toInt64.toUInt64 &&& Int64.toUInt64 63)).toInt64 &&& 6148914691236517205)
def bcB (x : Int64) : Int64 := (x &&& 3689348814741910323) + ((x.toUInt64 >>> ((nI 2).toInt64.toUInt64 &&& Int64.toUInt64 63)).toInt64 &&& 3689348814741910323)
def bcC (x : Int64) : Int64 := (x + (x.toUInt64 >>> ((nI 4).toInt64.toUInt64 &&& Int64.toUInt64 63)).toInt64) &&& 1085102592571150095
def bcD (k : Nat) (x : Int64) : Int64 := x + (x.toUInt64 >>> ((nI k).toInt64.toUInt64 &&& Int64.toUInt64 63)).toInt64
def bc (x : Int64) : Int32 := (bcD 32 (bcD 16 (bcD 8 (bcC (bcB (bcA x)))))).toInt32 &&& nI 127
def rcvG (i j : Nat) (sent : Int64) : Nat → Nat → Int32 → SS → Int32 × SS
  | 0, _, n, S => (n, S)
  | m + 1, k, n, S => rcvG i j sent m (k + 1) (n + bc ((S.2 (130 + 5 * j) k &&& sent) &&& (S.2 (130 + 5 * i) k ^^^ (-1)))) (s2 S (130 + 5 * i) k (S.2 (130 + 5 * i) k ||| (S.2 (130 + 5 * j) k &&& sent)))
