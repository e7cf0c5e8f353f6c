/-! COMMIT AND MERGE, as the code goes -/
def mcW (r b i : Nat) (nw : Bool) : Nat → Nat → SS → SS
  | 0, _, S => S
  | k + 1, w, S => mcW r b i nw k (w + 1) (s2 S (3 * r + 2) (i * 3 + w) (if nw = true ∨ S.1 (3 * r + 1) (i * 3 + w) ≠ S.1 (3 * b + 1) (i * 3 + w) then b64 r else S.2 (3 * b + 2) (i * 3 + w)))
def mcI (r b i : Nat) (S : SS) : SS := if ti (S.1 (3 * r) 0) i = true then (if ti (S.1 (3 * b) 0) i = true then mcW r b i false 3 0 S else mcW r b i true 3 0 (s1 S 142 i (nI r))) else S
def mcN (r b : Nat) : Nat → Nat → SS → SS
  | 0, _, S => S
  | n + 1, i, S => mcN r b n (i + 1) (mcI r b i S)
def osI (S : SS) (n w a b : Nat) : Int32 :=
  if S.1 (3 * a + 1) (n * 3 + w) = S.1 (3 * b + 1) (n * 3 + w) then nI 2
  else if S.2 (3 * a + 2) (n * 3 + w) &&& ((S.2 141 b ||| b64 b) ^^^ (-1)) = 0 then nI 1
  else if S.2 (3 * b + 2) (n * 3 + w) &&& ((S.2 141 a ||| b64 a) ^^^ (-1)) = 0 then nI 0 else -1
def mmI (S : SS) (rc n w a b : Nat) (own side : Int32) : Int64 :=
  if own = nI 2 then ltG S (S.2 (3 * a + 2) (n * 3 + w) ||| S.2 (3 * b + 2) (n * 3 + w)) rc 0 (S.2 (3 * a + 2) (n * 3 + w) ||| S.2 (3 * b + 2) (n * 3 + w))
  else if own = side then (if side = nI 1 then S.2 (3 * b + 2) (n * 3 + w) else S.2 (3 * a + 2) (n * 3 + w)) else b64 rc
def mnSide (S : SS) (i n w a b : Nat) : Int32 := if S.1 (131 + 5 * i) (n * 3 + w) = -1 then osI S n w a b else S.1 (131 + 5 * i) (n * 3 + w)
def mnPut (S : SS) (rc n w a b c : Nat) (own side : Int32) : SS := s2 (s1 S (3 * 40 + 1) (n * 3 + w) (S.1 (3 * c + 1) (n * 3 + w))) (3 * 40 + 2) (n * 3 + w) (mmI (s1 S (3 * 40 + 1) (n * 3 + w) (S.1 (3 * c + 1) (n * 3 + w))) rc n w a b own side)
def mn1 (S : SS) (rc i n a b w : Nat) : SS :=
  if mnSide S i n w a b = -1 then s2 S 139 9 (S.2 139 9 ||| b64 (n * 3 + w))
  else if mnSide S i n w a b = nI 1 then mnPut S rc n w a b b (osI S n w a b) (mnSide S i n w a b) else mnPut S rc n w a b a (osI S n w a b) (mnSide S i n w a b)
def mnW (rc i n a b : Nat) : Nat → Nat → SS → SS
  | 0, _, S => S
  | k + 1, w, S => mnW rc i n a b k (w + 1) (mn1 S rc i n a b w)
def mnS (S : SS) (rc i n a b : Nat) : SS := mnW rc i n a b 3 0 (plantS S 40 n (-1))
theorem mn1_F (S : SS) (rc i n a b w : Nat) {x : Nat} (h0 : x ≠ 120) (h1 : x ≠ 121) : (mn1 S rc i n a b w).1 x = S.1 x := by
  unfold mn1 mnPut
  split
  · rfl
  · split <;> (show (s1 S (3 * 40 + 1) _ _).1 x = _; exact s1_ne _ _ _ _ h1)
theorem mnW_F (rc i n a b : Nat) {x : Nat} (h0 : x ≠ 120) (h1 : x ≠ 121) : ∀ (k w : Nat) (S : SS), (mnW rc i n a b k w S).1 x = S.1 x
  | 0, _, _ => rfl
  | k + 1, w, S => by rw [mnW, mnW_F rc i n a b h0 h1 k, mn1_F S rc i n a b w h0 h1]
theorem plantS_F (S : SS) (t n : Nat) (v : Int32) {x : Nat} (h0 : x ≠ 3 * t) (h1 : x ≠ 3 * t + 1) : (plantS S t n v).1 x = S.1 x := by
  unfold plantS
  rw [s1_ne _ _ _ _ h1, s1_ne _ _ _ _ h1, s1_ne _ _ _ _ h1, s1_ne _ _ _ _ h0]
theorem mnS_F (S : SS) (rc i n a b : Nat) {x : Nat} (h0 : x ≠ 120) (h1 : x ≠ 121) : (mnS S rc i n a b).1 x = S.1 x := by
  rw [mnS, mnW_F rc i n a b h0 h1, plantS_F S 40 n _ h0 h1]
theorem cnG_F (t u n : Nat) {x : Nat} (h1 : x ≠ 3 * t + 1) : ∀ (k w : Nat) (S : SS), (cnG t u n k w S).1 x = S.1 x
  | 0, _, _ => rfl
  | k + 1, w, S => by rw [cnG, cnG_F t u n h1 k]; exact s1_ne _ _ _ _ h1
theorem cnS_F (S : SS) (t u n : Nat) {x : Nat} (h0 : x ≠ 3 * t) (h1 : x ≠ 3 * t + 1) : (cnS S t u n).1 x = S.1 x := by
  rw [cnS, cnG_F t u n h1, s1_ne _ _ _ _ h0]
/-- a node's turn in mergeTrees; j: its birth -/
def mt1 (S : SS) (rc i a b n j : Nat) : SS :=
  if ti (S.1 (129 + 5 * i) 6) n = true then S
  else if ti (S.1 (3 * a) 0) n = true then
    (if ti (S.1 (3 * b) 0) n = true then mnS S rc i n a b
     else if tb (S.2 141 b ||| b64 b) j = true then S else cnS S 40 a n)
  else if ti (S.1 (3 * b) 0) n = true then (if tb (S.2 141 a ||| b64 a) j = true then S else cnS S 40 b n) else S
theorem mt1_F (S : SS) (rc i a b n j : Nat) {x : Nat} (h0 : x ≠ 120) (h1 : x ≠ 121) : (mt1 S rc i a b n j).1 x = S.1 x := by
  unfold mt1
  split
  · rfl
  · split
    · split
      · exact mnS_F S rc i n a b h0 h1
      · split
        · rfl
        · exact cnS_F S 40 a n h0 h1
    · split
      · split
        · rfl
        · exact cnS_F S 40 b n h0 h1
      · rfl
def mtG (bi : Nat → Nat) (rc i a b : Nat) : Nat → Nat → SS → SS
  | 0, _, S => S
  | k + 1, n, S => mtG bi rc i a b k (n + 1) (mt1 S rc i a b n (bi n))
theorem mtG_F (bi : Nat → Nat) (rc i a b : Nat) {x : Nat} (h0 : x ≠ 120) (h1 : x ≠ 121) : ∀ (k n : Nat) (S : SS), (mtG bi rc i a b k n S).1 x = S.1 x
  | 0, _, _ => rfl
  | k + 1, n, S => by rw [mtG, mtG_F bi rc i a b h0 h1 k, mt1_F S rc i a b n (bi n) h0 h1]
def mtS (S : SS) (bi : Nat → Nat) (rc nc i a b : Nat) : SS := mtG bi rc i a b (nc - 1) 1 (s2 (s1 S (3 * 40) 0 (nI 1)) 139 9 0)
theorem mtS_F (S : SS) (bi : Nat → Nat) (rc nc i a b : Nat) {x : Nat} (h0 : x ≠ 120) (h1 : x ≠ 121) : (mtS S bi rc nc i a b).1 x = S.1 x := by
  rw [mtS, mtG_F bi rc i a b h0 h1]; exact s1_ne _ _ _ _ h0
/-- a conflict is listed -/
def liS (S : SS) (i c : Nat) (x y : Int32) : SS := s1 (s1 (s1 S (132 + 5 * i) c x) (133 + 5 * i) c y) (129 + 5 * i) 9 (nI (c + 1))
theorem liS_9 (S : SS) (i c : Nat) (x y : Int32) : (liS S i c x y).1 (129 + 5 * i) 9 = nI (c + 1) := by
  unfold liS; rw [s1_eq]; exact pk_us
theorem liS_F (S : SS) (i c : Nat) (x y : Int32) {a : Nat} (h1 : a ≠ 132 + 5 * i) (h2 : a ≠ 133 + 5 * i) (h3 : a ≠ 129 + 5 * i) : (liS S i c x y).1 a = S.1 a := by
  unfold liS; rw [s1_ne _ _ _ _ h3, s1_ne _ _ _ _ h2, s1_ne _ _ _ _ h1]
theorem liS_2 (S : SS) (i c : Nat) (x y : Int32) : (liS S i c x y).2 = S.2 := rfl
/-- of a node without a conflict of kind 0: its conflict of kind 3, 4, 5, or 0 -/
def pcK (S : SS) (n : Nat) : Nat :=
  if aliveB S 40 (dP (S.1 (3 * 40 + 1) (n * 3))) = false then 3
  else if lowG (fun j => ti (S.1 (3 * 40) 0) j && (S.1 (3 * 40 + 1) (j * 3) == S.1 (3 * 40 + 1) (n * 3))) 15 1 ≠ nI n then 4
  else if leadG S 40 (nI n) 16 (dP (S.1 (3 * 40 + 1) (n * 3))) = true then 5 else 0
def pcS (S : SS) (i c n : Nat) : SS := if pcK S n = 0 then S else liS S i c (nI n) (nI (pcK S n))
/-- the kinds 0, 1, 2 of a node, from w on: the store and the count -/
def lcW (i n : Nat) : Nat → Nat → SS × Nat → SS × Nat
  | 0, _, q => q
  | k + 1, w, q => lcW i n k (w + 1) (if tb (q.1.2 139 9) (n * 3 + w) = true then (liS q.1 i q.2 (nI n) (nI w), q.2 + 1) else q)
def lcF (i n : Nat) (q : SS × Nat) : SS × Nat := if tb (q.1.2 139 9) (n * 3) = true then q else (pcS q.1 i q.2 n, q.2 + (if pcK q.1 n = 0 then 0 else 1))
def lcI (i n : Nat) (q : SS × Nat) : SS × Nat := if ti (q.1.1 (3 * 40) 0) n = true then lcF i n (lcW i n 3 0 q) else q
theorem pcS_9 {S : SS} {i c n : Nat} (hc : S.1 (129 + 5 * i) 9 = nI c) : (pcS S i c n).1 (129 + 5 * i) 9 = nI (c + (if pcK S n = 0 then 0 else 1)) := by
  unfold pcS
  split
  · exact hc
  · exact liS_9 S i c _ _
theorem pcS_F (S : SS) (i c n : Nat) {a : Nat} (h1 : a ≠ 132 + 5 * i) (h2 : a ≠ 133 + 5 * i) (h3 : a ≠ 129 + 5 * i) : (pcS S i c n).1 a = S.1 a := by
  unfold pcS
  split
  · rfl
  · exact liS_F S i c _ _ h1 h2 h3
theorem pcS_2 (S : SS) (i c n : Nat) : (pcS S i c n).2 = S.2 := by
  unfold pcS
  split <;> rfl
def lcG (i : Nat) : Nat → Nat → SS × Nat → SS × Nat
  | 0, _, q => q
  | k + 1, n, q => lcG i k (n + 1) (lcI i n q)
