/-! THE REFERENCE, as its code goes -/
section RW
variable {p : Program} {l : Launch} {e : Env} {R : Room} {s : State} {m : MethodId} {args : Array Value} {below : List Frame} {meth : Method} {c : Code} {H : Heap} {locs : List Loc} {cells slots : Nat} {Q : State → Prop} {pc : Nat} {ls : Array Slot} {rest : List Value}
theorem lv_rwi {x y : Int32} (h : x = y) (k : W p l e R s m args below meth c H locs cells slots Q (F0 m pc ls (.int y :: rest))) : W p l e R s m args below meth c H locs cells slots Q (F0 m pc ls (.int x :: rest)) := by rw [h]; exact k
end RW
theorem tb_shr1 (x : Int64) {k : Nat} (hk : k < 64) : ((x >>> ((nI k).toInt64 &&& 63)) &&& 1) = 1 ↔ tb x k = true := by
  have h0 := tb_shr x hk
  generalize x >>> ((nI k).toInt64 &&& 63) = y at h0 ⊢
  cases h : tb x k with
  | false =>
    rw [h0.mpr h]
    exact ⟨fun z => absurd z (by decide), fun z => absurd z (by decide)⟩
  | true =>
    refine ⟨fun _ => rfl, fun _ => ?_⟩
    have h1 : ¬ (y &&& 1 = 0) := fun z => by rw [h0.mp z] at h; cases h
    rw [← Int64.toBitVec_inj, Int64.toBitVec_and] at h1 ⊢
    have h2 : ¬ (y.toBitVec &&& 1#64 = 0#64) := h1
    rw [bv_and1] at h2
    show y.toBitVec &&& 1#64 = 1#64
    apply BitVec.eq_of_getLsbD_eq
    intro i hi
    by_cases hi0 : i = 0
    · subst hi0
      rw [BitVec.getLsbD_and]
      simp only [Bool.not_eq_false] at h2
      rw [h2]; rfl
    · simp [BitVec.getLsbD_and, BitVec.getLsbD_one, hi0]
theorem ti_shr0 (x : Int32) {k : Nat} (hk : k < 32) : ((x >>> (nI k &&& 31)) &&& nI 1) = 0 ↔ ti x k = false := by
  rw [← Int32.toBitVec_inj, Int32.toBitVec_and]
  show _ &&& 1#32 = 0#32 ↔ _
  rw [bv_and1i]
  have := b_sshr k hk x (i := 0) (by decide)
  unfold bt at this
  rw [this, Nat.add_zero, if_pos hk]
  rfl
theorem ti_shr (x : Int32) {k : Nat} (hk : k < 32) : ((x >>> (nI k &&& 31)) &&& nI 1) = nI 1 ↔ ti x k = true := by
  have h0 := ti_shr0 x hk
  generalize x >>> (nI k &&& 31) = y at h0 ⊢
  cases h : ti x k with
  | false =>
    rw [h0.mpr h]
    exact ⟨fun z => absurd z (by decide), fun z => absurd z (by decide)⟩
  | true =>
    refine ⟨fun _ => rfl, fun _ => ?_⟩
    have h1 : ¬ (y &&& nI 1 = 0) := fun z => by rw [h0.mp z] at h; cases h
    rw [← Int32.toBitVec_inj, Int32.toBitVec_and] at h1 ⊢
    have h2 : ¬ (y.toBitVec &&& 1#32 = 0#32) := h1
    rw [bv_and1i] at h2
    show y.toBitVec &&& 1#32 = 1#32
    apply BitVec.eq_of_getLsbD_eq
    intro i hi
    by_cases hi0 : i = 0
    · subst hi0
      rw [BitVec.getLsbD_and]
      simp only [Bool.not_eq_false] at h2
      rw [h2]; rfl
    · simp [BitVec.getLsbD_and, BitVec.getLsbD_one, hi0]
theorem ti_and0 (x : Int32) : (x &&& nI 1) = 0 ↔ ti x 0 = false := by
  rw [← Int32.toBitVec_inj, Int32.toBitVec_and]
  show _ &&& 1#32 = 0#32 ↔ _
  rw [bv_and1i]; rfl
def inM (v a b : Int32) : Bool := if v < a then false else if b < v then false else true
theorem inM_B (x : Int32) {n : Nat} (hn : n + 1 < 2 ^ 31) : inM x (nI 0) (nI n) = inB x (n + 1) := by
  unfold inM
  by_cases h0 : x < nI 0
  · rw [if_pos h0]
    cases h : inB x (n + 1) with
    | false => rfl
    | true => exact absurd ((inB_iff hn).mp h) (rng_no0 h0 hn)
  · rw [if_neg h0]
    by_cases h1 : nI n < x
    · rw [if_pos h1]
      cases h : inB x (n + 1) with
      | false => rfl
      | true =>
        obtain ⟨j, hj, rfl⟩ := (inB_iff hn).mp h
        exact absurd h1 (nI_nlt (by omega) (by omega))
    · rw [if_neg h1]
      refine ((inB_iff hn).mpr ?_).symm
      have h2 : ¬ nI (n + 1) ≤ x := fun z => h1 (Int32.lt_of_lt_of_le (nI_lt (by omega) hn) z)
      exact rng_ge h0 h2 hn
def mAl (S : SS) (t : Nat) (x : Int32) : Bool := inB x 16 && ti (S.1 4 t) (cn x)
theorem mAl_nI (S : SS) (t : Nat) {n : Nat} (h : n < 16) : mAl S t (nI n) = ti (S.1 4 t) n := by
  unfold mAl
  rw [inB_nI h (by decide), cn_nI (by omega)]; rfl
theorem mAl_of {S : SS} {t : Nat} {x : Int32} (h : mAl S t x = true) : ∃ n, n < 16 ∧ x = nI n := by
  unfold mAl at h
  rw [Bool.and_eq_true] at h
  exact (inB_iff (by decide)).mp h.1
def mHas (S : SS) (rc i : Nat) (x : Int32) : Bool := inB x rc && tb (S.2 10 i) (cn x)
theorem mHas_of {S : SS} {rc i : Nat} {x : Int32} (hr : rc < 2 ^ 31) (h : mHas S rc i x = true) : ∃ j, j < rc ∧ x = nI j ∧ tb (S.2 10 i) j = true := by
  unfold mHas at h
  rw [Bool.and_eq_true] at h
  obtain ⟨j, hj, rfl⟩ := (inB_iff hr).mp h.1
  exact ⟨j, hj, rfl, by have := h.2; rwa [cn_nI (by omega)] at this⟩
def mKn (S : SS) (a r : Nat) : Bool := decide (a = r) || tb (S.2 1 r) a
def cp1 (k : Nat) (S : SS) (f t n : Nat) : SS := s1 S k (16 * t + n) (S.1 k (16 * f + n))
def mcnW (f t n : Nat) : Nat → Nat → SS → SS
  | 0, _, S => S
  | k + 1, w, S => mcnW f t n k (w + 1) (s2 S 9 (48 * t + 3 * n + w) (S.2 9 (48 * f + 3 * n + w)))
def mcn (S : SS) (f t n : Nat) : SS := mcnW f t n 3 0 (cp1 8 (cp1 7 (cp1 6 (cp1 5 S f t n) f t n) f t n) f t n)
def mctG (f t : Nat) : Nat → Nat → SS → SS
  | 0, _, S => S
  | k + 1, n, S => mctG f t k (n + 1) (mcn S f t n)
def mct (S : SS) (f t : Nat) : SS := mctG f t 16 0 (s1 S 4 t (S.1 4 f))
def sameM (S : SS) (t u n k : Nat) : Bool :=
  if k = 0 then (S.1 5 (16 * t + n) == S.1 5 (16 * u + n)) && (S.1 6 (16 * t + n) == S.1 6 (16 * u + n))
  else if k = 1 then S.1 7 (16 * t + n) == S.1 7 (16 * u + n) else S.1 8 (16 * t + n) == S.1 8 (16 * u + n)
def cvM (S : SS) (f t n k : Nat) : SS := if k = 0 then cp1 6 (cp1 5 S f t n) f t n else if k = 1 then cp1 7 S f t n else cp1 8 S f t n
def eqG (S : SS) (t u : Nat) : Nat → Nat → Bool → Bool
  | 0, _, e => e
  | k + 1, n, e => if e = true then eqG S t u k (n + 1) (if ti (S.1 4 t) n = true then sameM S t u n 0 && sameM S t u n 1 && sameM S t u n 2 else true) else false
def eqT (S : SS) (t u : Nat) : Bool := eqG S t u 15 1 (decide (S.1 4 t = S.1 4 u))
def naC (S : SS) (t : Nat) (x y z : Int32) (n : Nat) : Bool := !(nI n == z) && ti (S.1 4 t) n && (S.1 5 (16 * t + n) == x) && (S.1 6 (16 * t + n) == y)
def naG (S : SS) (t : Nat) (x y z : Int32) : Nat → Int32 → Int32
  | 0, f => f
  | n + 1, f => naG S t x y z n (if naC S t x y z (n + 1) = true then nI (n + 1) else f)
def wiG (S : SS) (t : Nat) (y : Int32) : Nat → Nat → Bool
  | 0, j => decide (nI j = y)
  | n + 1, j => if j = 0 then decide (nI j = y) else if nI j = y then true else wiG S t y n (cn (S.1 5 (16 * t + j)))
def mAK (S : SS) (x : Int64) (r : Nat) : Bool := decide (x &&& ((S.2 1 r ||| b64 r) ^^^ (-1)) = 0)
def mltG (S : SS) (x : Int64) : Nat → Nat → Int64 → Int64
  | 0, _, a => a
  | n + 1, r, a => mltG S x n (r + 1) (if tb x r = true then a &&& (S.2 1 r ^^^ (-1)) else a)
def mclG (S : SS) (x : Int64) : Nat → Nat → Int64 → Int64
  | 0, _, a => a
  | n + 1, r, a => mclG S x n (r + 1) (if tb x r = true then a ||| S.2 1 r else a ||| 0)
def itI (S : SS) (a b n k : Nat) : Int32 :=
  if sameM S a b n k = true then nI 2 else if mAK S (S.2 9 (48 * a + 3 * n + k)) b = true then nI 1 else if mAK S (S.2 9 (48 * b + 3 * n + k)) a = true then nI 0 else -1
def cbG (S : SS) (n : Nat) : Nat → Int32 → Bool
  | 0, _ => false
  | k + 1, a => if a = nI n then true else if a ≤ 0 then false else if mAl S 42 a = true then (if ti (S.1 19 (cn a)) 0 = false then cbG S n k (S.1 5 (672 + cn a)) else false) else false
def mmG (S : SS) (i b : Nat) : Nat → Nat → Int64 → Int64
  | 0, _, a => a
  | n + 1, k, a => mmG S i b n (k + 1) (if ti (S.1 15 i) k = true then a ||| S.2 14 (12 * i + 3 * k + b) else a ||| 0)
def mbG (x : Int64) : Nat → Nat → Int32 → Int32
  | 0, _, a => a
  | n + 1, k, a => mbG x n (k + 1) (a + ((x >>> ((nI k).toInt64 &&& 63)) &&& 1).toInt32)
def mliS (S : SS) (i c : Nat) (x y : Int32) : SS := s1 (s1 (s1 S 17 (64 * i + c) x) 18 (64 * i + c) y) 16 i (nI (c + 1))
