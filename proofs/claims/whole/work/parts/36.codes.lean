/-! HOW THE CLASS'S CALLS END: 0 as told, 1 NoSuchElement, 2 IllegalArgument, 3 IllegalState; and what they do -/
abbrev cn (x : Int32) : Nat := x.toNatClampNeg
theorem cn_nI {n : Nat} (h : n < 2 ^ 31) : cn (nI n) = n := nI_clamp h
def isP (x : Int32) : Bool := x == 0 || x == 1
theorem isP_or {x : Int32} : isP x = true ↔ (x = 0 ∨ x = 1) := by simp [isP]
theorem isP_no {x : Int32} (h : ¬ (x = 0 ∨ x = 1)) : ¬ isP x = true := fun z => h (isP_or.mp z)
def inB (x : Int32) (n : Nat) : Bool := decide (0 ≤ x.toInt ∧ x.toInt < n)
theorem inB_iff {x : Int32} {n : Nat} (hn : n < 2 ^ 31) : inB x n = true ↔ ∃ j, j < n ∧ x = nI j := by
  unfold inB
  rw [decide_eq_true_eq]
  constructor
  · intro h
    have h0 : ¬ x < 0 := fun z => by
      have : x.toInt < 0 := by simpa [Int32.lt_iff_toInt_lt] using z
      omega
    obtain ⟨j, hj, e⟩ := nI_of h0
    subst e
    rw [nI_toInt hj] at h
    exact ⟨j, by omega, rfl⟩
  · rintro ⟨j, hj, rfl⟩
    rw [nI_toInt (by omega)]
    omega
theorem inB_nI {j n : Nat} (h : j < n) (hn : n < 2 ^ 31) : inB (nI j) n = true := (inB_iff hn).mpr ⟨j, h, rfl⟩
theorem isP_nI {i : Nat} (h : i < 2) : isP (nI i) = true := by
  rw [isP_or]
  rcases (show i = 0 ∨ i = 1 by omega) with rfl | rfl
  · exact Or.inl rfl
  · exact Or.inr rfl
theorem isP_iff0 {x : Int32} : (x = 0 ∨ x = 1) → ∃ i, i < 2 ∧ x = nI i := by
  rintro (h | h)
  · exact ⟨0, by omega, h⟩
  · exact ⟨1, by omega, h⟩
theorem isP_iff {x : Int32} : isP x = true ↔ ∃ i, i < 2 ∧ x = nI i := by
  constructor
  · intro h; revert h; rw [isP_or]; exact isP_iff0
  · rintro ⟨i, h, rfl⟩; exact isP_nI h
def heldB (S : SS) (rc i : Nat) (y : Int32) : Bool := inB y rc && tb (S.2 (129 + 5 * i) 0) (cn y)
theorem heldB_nI {S : SS} {rc i j : Nat} (h : j < rc) (hr : rc ≤ 40) (ht : tb (S.2 (129 + 5 * i) 0) j = true) : heldB S rc i (nI j) = true := by
  unfold heldB
  rw [inB_nI h (by omega), cn_nI (by omega), ht]; rfl
theorem heldB_no {S : SS} {rc i : Nat} {y : Int32} (hr : rc ≤ 40) (h : ¬ ∃ j, j < rc ∧ y = nI j ∧ tb (S.2 (129 + 5 * i) 0) j = true) : ¬ heldB S rc i y = true := by
  intro hh
  unfold heldB at hh
  rw [Bool.and_eq_true] at hh
  obtain ⟨j, hj, rfl⟩ := (inB_iff (by omega)).mp hh.1
  exact h ⟨j, hj, rfl, by have := hh.2; rwa [cn_nI (by omega)] at this⟩
def eX : Nat → String
  | 1 => eN
  | 2 => eA
  | 3 => eS
  | _ => ""
theorem thr_of {c k : Nat} {E : String} (hc : c = k) (hE : E = eX k) (hk : ¬ k = 0) : E = eX c ∧ ¬ c = 0 := by subst hc; exact ⟨hE, hk⟩
abbrev low0 (S : SS) (t : Nat) (x : Int32) : Int32 := lowG (fun j => ti (S.1 (3 * t) 0) j && (S.1 (3 * t + 1) (j * 3) == x)) 15 1
abbrev par0 (S : SS) (t : Nat) (x : Int32) : Bool := anyG (fun j => ti (S.1 (3 * t) 0) j && (dP (S.1 (3 * t + 1) (j * 3)) == x)) 15 1
def cdOpen (S : SS) (rc : Nat) (x y : Int32) : Nat := if isP x = true then (if heldB S rc (cn x) y = true then 0 else 1) else 1
def cdAdd (S : SS) (nc : Nat) (x y z : Int32) : Nat :=
  if isP x = true then (if S.1 (129 + 5 * cn x) 4 = -1 then 3 else if aliveB S (41 + cn x) y = true then
    (if ti (S.1 139 6) (cn y) = true ∧ inB z 10 = true then (if low0 S (41 + cn x) (nI (cn y * 10 + cn z)) = -1 then (if nc < 16 then 0 else 3) else 2) else 2) else 1) else 1
def doAdd (S : SS) (nc i p k : Nat) (d : Bool) : SS := if d = true then plantS (s1 (s1 S 139 7 (nI (nc + 1))) 139 6 ((s1 S 139 7 (nI (nc + 1))).1 139 6 ||| (nI 1 <<< (nI nc &&& 31)))) (41 + i) nc (nI (p * 10 + k)) else plantS (s1 S 139 7 (nI (nc + 1))) (41 + i) nc (nI (p * 10 + k))
def cdDrop (S : SS) (x y : Int32) : Nat :=
  if isP x = true then (if S.1 (129 + 5 * cn x) 4 = -1 then 3 else if aliveB S (41 + cn x) y = true then
    (if y = 0 then 2 else if par0 S (41 + cn x) y = true then 2 else 0) else 1) else 1
def doDrop (S : SS) (i n : Nat) : SS := s1 S (3 * (41 + i)) 0 (S.1 (3 * (41 + i)) 0 &&& ((nI 1 <<< (nI n &&& 31)) ^^^ (-1)))
def cdMove (S : SS) (x y z w : Int32) : Nat :=
  if isP x = true then (if S.1 (129 + 5 * cn x) 4 = -1 then 3 else if aliveB S (41 + cn x) y = true then (if aliveB S (41 + cn x) z = true then
    (if y = 0 then 2 else if ti (S.1 139 6) (cn z) = true ∧ inB w 10 = true then
      (if low0 S (41 + cn x) (nI (cn z * 10 + cn w)) = -1 ∨ low0 S (41 + cn x) (nI (cn z * 10 + cn w)) = y then (if leadG S (41 + cn x) y 16 z = true then 2 else 0) else 2) else 2) else 1) else 1) else 1
def cdWrite (S : SS) (x y z : Int32) : Nat :=
  if isP x = true then (if S.1 (129 + 5 * cn x) 4 = -1 then 3 else if aliveB S (41 + cn x) y = true then
    (if y = 0 then 2 else if z = nI 1 then (if ti (S.1 139 6) (cn y) = true then 2 else 0) else if z = nI 2 then 0 else 2) else 1) else 1
def cdCommit (S : SS) (rc : Nat) (x : Int32) : Nat :=
  if isP x = true then (if S.1 (129 + 5 * cn x) 4 = -1 then 3 else if sameB S (41 + cn x) (cn (S.1 (129 + 5 * cn x) 4)) = true then 3 else if rc < 40 then 0 else 3) else 1
def doCommit (S : SS) (rc nc i b : Nat) : SS := s1 (mcN rc b (nc - 1) 1 (mrS S rc i (41 + i) (S.2 141 b ||| b64 b))) (129 + 5 * i) 4 (nI rc)
def cdDecide (nc : Nat) (x y z w : Int32) : Nat :=
  if isP x = true then (if inB y nc = true then (if y = 0 then 2 else if inB z 3 = true then (if w = 0 ∨ w = nI 1 ∨ w = -1 then 0 else 2) else 2) else 1) else 1
def cdBury (nc : Nat) (x y : Int32) : Nat := if isP x = true then (if inB y nc = true then (if y = 0 then 2 else 0) else 1) else 1
def doBury (S : SS) (i n : Nat) (b : Bool) : SS := if b = true then s1 S (129 + 5 * i) 6 (S.1 (129 + 5 * i) 6 ||| (nI 1 <<< (nI n &&& 31))) else s1 S (129 + 5 * i) 6 (S.1 (129 + 5 * i) 6 &&& ((nI 1 <<< (nI n &&& 31)) ^^^ (-1)))
def cdMerge (S : SS) (rc : Nat) (x y z : Int32) : Nat :=
  if isP x = true then (if heldB S rc (cn x) y = true then (if heldB S rc (cn x) z = true then
    (if tb (S.2 141 (cn y) ||| b64 (cn y)) (cn z) = true then 2 else if tb (S.2 141 (cn z) ||| b64 (cn z)) (cn y) = true then 2 else if rc < 40 then 0 else 3) else 1) else 1) else 1
def meQ (S : SS) (bi : Nat → Nat) (rc nc i a b : Nat) : SS × Nat := lcG i (nc - 1) 1 (s1 (mtS S bi rc nc i a b) (129 + 5 * i) 9 (nI 0), 0)
def doMerge (S : SS) (bi : Nat → Nat) (rc nc i a b : Nat) : Int32 × SS :=
  if 0 < (meQ S bi rc nc i a b).2 then (-nI (meQ S bi rc nc i a b).2, (meQ S bi rc nc i a b).1)
  else (nI rc, mrS (s1 (fillG (131 + 5 * i) (-1) 48 0 (meQ S bi rc nc i a b).1) (129 + 5 * i) 6 (nI 0)) rc i 40 (((s1 (fillG (131 + 5 * i) (-1) 48 0 (meQ S bi rc nc i a b).1) (129 + 5 * i) 6 (nI 0)).2 141 a ||| b64 a) ||| ((s1 (fillG (131 + 5 * i) (-1) 48 0 (meQ S bi rc nc i a b).1) (129 + 5 * i) 6 (nI 0)).2 141 b ||| b64 b)))
def cdConflict (c0 : Nat) (x y z : Int32) : Nat := if isP x = true then (if inB y c0 = true then (if z = nI 0 then 0 else if z = nI 1 then 0 else 2) else 2) else 1
def cdAbout (S : SS) (rc : Nat) (x y z : Int32) : Nat := if inB x rc = true then (if aliveB S (cn x) y = true then (if inB z 6 = true then 0 else 2) else 1) else 1
def anAbout (S : SS) (r n w : Nat) : Int32 := match w with
  | 0 => dP (S.1 (3 * r + 1) (n * 3))
  | 1 => dN (S.1 (3 * r + 1) (n * 3))
  | 2 => S.1 (3 * r + 1) (n * 3 + 1)
  | 3 => S.1 (3 * r + 1) (n * 3 + 2)
  | 4 => S.1 142 n
  | _ => bI (ti (S.1 139 6) n)
def cdMarks (S : SS) (rc : Nat) (x y z : Int32) : Nat := if inB x rc = true then (if aliveB S (cn x) y = true then (if y = 0 then 2 else if inB z 3 = true then 0 else 2) else 1) else 1
def cdNodes (S : SS) (rc : Nat) (x y : Int32) : Nat := if isP x = true then (if y = -1 then 0 else if heldB S rc (cn x) y = true then 0 else 1) else 1
def anNodes (S : SS) (x y : Int32) : Int64 := if y = -1 then (if S.1 (129 + 5 * cn x) 4 = -1 then 0 else (S.1 (3 * (41 + cn x)) 0).toInt64) else (S.1 (3 * cn y) 0).toInt64
def cdAnc (rc : Nat) (x : Int32) : Nat := if inB x rc = true then 0 else 1
def cdCertify (S : SS) (rc : Nat) (x y z w : Int32) : Nat := if isP x = true then (if heldB S rc (cn x) y = true then (if inB z 4 = true then (if inB w 3 = true then 0 else 1) else 1) else 1) else 1
def cdTrust (x y : Int32) : Nat := if isP x = true then (if inB y 4 = true then 0 else 1) else 1
def doTrust (S : SS) (i k : Nat) (b : Bool) : SS := if b = true then s1 S (129 + 5 * i) 2 (S.1 (129 + 5 * i) 2 ||| (nI 1 <<< (nI k &&& 31))) else s1 S (129 + 5 * i) 2 (S.1 (129 + 5 * i) 2 &&& ((nI 1 <<< (nI k &&& 31)) ^^^ (-1)))
def cdHeads (x y : Int32) : Nat := if isP x = true then (if inB y 3 = true then 0 else 1) else 1
def cdExch (x : Int32) : Nat := if inB x 3 = true then 0 else 1
def cdHas (x : Int32) : Nat := if isP x = true then 0 else 1
def sndX (S : SS) (rc i b : Nat) : Int64 := waG S (memG S i b 4 0 0) rc 0 (memG S i b 4 0 0)
def rcvS (S : SS) (i j : Nat) (x : Int64) : Int32 × SS := rcvG i j x 12 0 (bc (x &&& (S.2 (129 + 5 * i) 0 ^^^ (-1)))) (s2 S (129 + 5 * i) 0 (S.2 (129 + 5 * i) 0 ||| x))
def doExch (S : SS) (rc b : Nat) : Int32 × SS :=
  ((rcvS S 1 0 (sndX S rc 0 b)).1 + (rcvS (rcvS S 1 0 (sndX S rc 0 b)).2 0 1 (sndX S rc 1 b)).1, (rcvS (rcvS S 1 0 (sndX S rc 0 b)).2 0 1 (sndX S rc 1 b)).2)
theorem swt (x : Int32) {n : Nat} (hn : n < 2 ^ 31) : (∃ j, j < n ∧ x = nI j) ∨ (inB x n = false ∧ (x.toInt < 0 ∨ (n : Int) - 1 < x.toInt)) := by
  cases h : inB x n with
  | true => exact Or.inl ((inB_iff hn).mp h)
  | false =>
    refine Or.inr ⟨rfl, ?_⟩
    unfold inB at h
    rw [decide_eq_false_iff_not] at h
    omega
theorem sw2 (x : Int32) (h0 : ¬ x = nI 0) (h1 : ¬ x = nI 1) : Op.lookupswitch.offset [(0, 25), (1, 33)] 41 x.toInt = 41 := by
  have e0 : ¬ x.toInt = 0 := fun h => h0 (Int32.toInt_inj.mp (by rw [h]; rfl))
  have e1 : ¬ x.toInt = 1 := fun h => h1 (Int32.toInt_inj.mp (by rw [h]; rfl))
  simp [Op.lookupswitch.offset, e0, e1, Ne.symm e0, Ne.symm e1, List.find?]
theorem cfS_1 (S : SS) (t u : Nat) {a : Nat} (h0 : a ≠ 3 * t) (h1 : a ≠ 3 * t + 1) : (cfS S t u).1 a = S.1 a := by
  unfold cfS
  show (r1 _ _ _).1 a = _
  unfold r1
  simp only [if_neg h1]
  exact s1_ne _ _ _ _ h0
theorem mrS_139 (S : SS) (rc i t : Nat) (x : Int64) (h : rc < 40) : (mrS S rc i t x).1 139 7 = S.1 139 7 := by
  unfold mrS
  show (cfS _ _ _).1 139 7 = _
  rw [cfS_1 _ _ _ (by omega) (by omega)]
  rw [s2_1, s1_eq]
  exact pk_un (by omega)
theorem fillG_F (q : Nat) (x : Int32) {a : Nat} (h : a ≠ q) : ∀ (n j : Nat) (S : SS), (fillG q x n j S).1 a = S.1 a
  | 0, _, _ => rfl
  | n + 1, j, S => by rw [fillG, fillG_F q x h n, s1_ne _ _ _ _ h]
theorem lcW_F (i n : Nat) {a : Nat} (h1 : a ≠ 132 + 5 * i) (h2 : a ≠ 133 + 5 * i) (h3 : a ≠ 129 + 5 * i) : ∀ (k w : Nat) (q : SS × Nat), (lcW i n k w q).1.1 a = q.1.1 a
  | 0, _, _ => rfl
  | k + 1, w, q => by
    rw [lcW, lcW_F i n h1 h2 h3 k]
    split
    · exact liS_F _ _ _ _ _ h1 h2 h3
    · rfl
theorem lcI_F (i n : Nat) {a : Nat} (h1 : a ≠ 132 + 5 * i) (h2 : a ≠ 133 + 5 * i) (h3 : a ≠ 129 + 5 * i) (q : SS × Nat) : (lcI i n q).1.1 a = q.1.1 a := by
  unfold lcI
  split
  · unfold lcF
    split
    · exact lcW_F i n h1 h2 h3 3 0 q
    · show (pcS _ _ _ _).1 a = _
      rw [pcS_F _ _ _ _ h1 h2 h3]
      exact lcW_F i n h1 h2 h3 3 0 q
  · rfl
theorem lcG_F (i : Nat) {a : Nat} (h1 : a ≠ 132 + 5 * i) (h2 : a ≠ 133 + 5 * i) (h3 : a ≠ 129 + 5 * i) : ∀ (k n : Nat) (q : SS × Nat), (lcG i k n q).1.1 a = q.1.1 a
  | 0, _, _ => rfl
  | k + 1, n, q => by rw [lcG, lcG_F i h1 h2 h3 k, lcI_F i n h1 h2 h3 q]
theorem meQ_139 (S : SS) (bi : Nat → Nat) (rc nc : Nat) {i : Nat} (hi : i < 2) (a b : Nat) : (meQ S bi rc nc i a b).1.1 139 = S.1 139 := by
  unfold meQ
  rw [lcG_F i (by omega) (by omega) (by omega)]
  show (s1 _ _ _ _).1 139 = _
  rw [s1_ne _ _ _ _ (by omega), mtS_F S bi rc nc i a b (by omega) (by omega)]
theorem nI_le0 {n : Nat} (h : n < 2 ^ 31) : nI n ≤ 0 ↔ n = 0 := by
  rw [show (0 : Int32) = nI 0 from rfl, nI_leI h (by decide)]
  omega
