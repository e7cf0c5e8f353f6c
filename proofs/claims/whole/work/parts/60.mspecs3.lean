/-! THE REFERENCE'S COMMIT AND MERGE -/
def mkW (r b n : Nat) (fr : Bool) : Nat → Nat → SS → SS
  | 0, _, S => S
  | k + 1, w, S => mkW r b n fr k (w + 1) (s2 S 9 (48 * r + 3 * n + w) (if fr = true ∨ sameM S r b n w = false then b64 r else S.2 9 (48 * b + 3 * n + w)))
def mkI (r b n : Nat) (S : SS) : SS := if ti (S.1 4 r) n = true then (if ti (S.1 4 b) n = true then mkW r b n false 3 0 (s1 S 3 n (S.1 3 n)) else mkW r b n true 3 0 (s1 S 3 n (nI r))) else S
def mkN (r b : Nat) : Nat → Nat → SS → SS
  | 0, _, S => S
  | k + 1, n, S => mkN r b k (n + 1) (mkI r b n S)
def mkF (i r : Nat) (S : SS) : SS := s1 (s2 S 10 i (S.2 10 i ||| b64 r)) 11 i (nI r)
def mk0 (S : SS) (rc i b : Nat) : SS := mct (s2 (s1 S 0 1 (nI (rc + 1))) 1 rc ((s1 S 0 1 (nI (rc + 1))).2 1 b ||| b64 b)) (40 + i) rc
def mdCommit (S : SS) (rc i b : Nat) : SS := mkF i rc (mkN rc b 15 1 (mk0 S rc i b))
def mcCommit (S : SS) (rc : Nat) (x : Int32) : Nat :=
  if isP x = true then (if S.1 11 (cn x) < 0 then 2 else if eqT S (40 + cn x) (cn (S.1 11 (cn x))) = true then 2 else if rc = 40 then 2 else 0) else 1
def mmW (i a b n r : Nat) : Nat → Nat → SS → SS
  | 0, _, S => S
  | k + 1, w, S => mmW i a b n r k (w + 1) (msS S i a b n w r)
def mmI1 (i a b r n : Nat) (S : SS) : SS := if ti (S.1 4 a) n = true then (if ti ((mcn S a 42 n).1 4 b) n = true then mmW i a b n r 3 0 (mcn S a 42 n) else mcn S a 42 n) else mcn S b 42 n
def mmI0 (i a b r n : Nat) (S : SS) : SS := if ti ((s1 S 19 n (nI 0)).1 4 42) n = true then mmI1 i a b r n (s1 S 19 n (nI 0)) else s1 S 19 n (nI 0)
def mmN (i a b r : Nat) : Nat → Nat → SS → SS
  | 0, _, S => S
  | k + 1, n, S => mmN i a b r k (n + 1) (mmI0 i a b r n S)
theorem cvM_4 (S : SS) (f t n k : Nat) : (cvM S f t n k).1 4 = S.1 4 := by
  unfold cvM
  split
  · unfold cp1; rw [s1_ne _ _ _ _ (by omega), s1_ne _ _ _ _ (by omega)]
  · split
    · exact s1_ne _ _ _ _ (by omega)
    · exact s1_ne _ _ _ _ (by omega)
theorem msS_4 (S : SS) (i a b n k r : Nat) : (msS S i a b n k r).1 4 = S.1 4 := by
  unfold msS
  split
  · exact s1_ne _ _ _ _ (by omega)
  · rw [s2_1]; exact cvM_4 _ _ _ _ _
def mdcG (i : Nat) : Nat → Nat → SS → SS
  | 0, _, S => S
  | k + 1, j, S => mdcG i k (j + 1) (s1 S 12 (48 * i + j) (-1))
def mmQ (S : SS) (bi : Nat → Nat) (rc i a b : Nat) : SS × Nat := mlcG i 15 1 (s1 (mmN i a b rc 15 1 (s1 S 4 42 (maG S bi i a b 15 1 (nI 1)))) 16 i (nI 0), 0)
def mm1 (S : SS) (rc : Nat) : SS := s1 (mct S 42 rc) 0 1 ((mct S 42 rc).1 0 1 + nI 1)
def mm2 (S : SS) (rc i a b : Nat) : SS := s2 (mm1 S rc) 1 rc ((((mm1 S rc).2 1 a ||| (mm1 S rc).2 1 b) ||| b64 a) ||| b64 b)
def mm3 (S : SS) (rc i a b : Nat) : SS := s1 (s2 (mm2 S rc i a b) 10 i ((mm2 S rc i a b).2 10 i ||| b64 rc)) 13 i (nI 0)
def mdMerge (S : SS) (bi : Nat → Nat) (rc i a b : Nat) : Int32 × SS :=
  if 0 < (mmQ S bi rc i a b).2 then (-nI (mmQ S bi rc i a b).2, (mmQ S bi rc i a b).1) else (nI rc, mdcG i 48 0 (mm3 (mmQ S bi rc i a b).1 rc i a b))
def mcMerge (S : SS) (rc : Nat) (x y z : Int32) : Nat :=
  if isP x = true then (if mHas S rc (cn x) y = true then (if mHas S rc (cn x) z = true then
    (if mKn S (cn y) (cn z) = true then 2 else if mKn S (cn z) (cn y) = true then 2 else if rc = 40 then 3 else 0) else 1) else 1) else 1
