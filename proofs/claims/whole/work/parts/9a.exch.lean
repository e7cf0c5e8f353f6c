/-! heads and exchange -/
theorem or_0 (a : Int64) : a ||| 0 = a := by rw [Int64.or_zero]
theorem lt_eq {C M : SS} (x : Int64) : ∀ (k r : Nat) (a : Int64), (∀ q, r ≤ q → q < r + k → C.2 141 q = M.2 1 q) → ltG C x k r a = mltG M x k r a
  | 0, _, _, _ => rfl
  | k + 1, r, a, h => by rw [ltG, mltG, h r (by omega) (by omega), lt_eq x k (r + 1) _ (fun q h1 h2 => h q (by omega) (by omega))]
theorem mlt_0 {M : SS} (x : Int64) : ∀ (k r : Nat) (a : Int64), (∀ q, r ≤ q → q < r + k → M.2 1 q = 0) → mltG M x k r a = a
  | 0, _, _, _ => rfl
  | k + 1, r, a, h => by
    rw [mltG, h r (by omega) (by omega), and_n0, mlt_0 x k (r + 1) _ (fun q h1 h2 => h q (by omega) (by omega))]
    split <;> rfl
theorem mlt_add {M : SS} (x : Int64) : ∀ (j k r : Nat) (a : Int64), mltG M x (j + k) r a = mltG M x k (r + j) (mltG M x j r a)
  | 0, k, r, a => by rw [Nat.zero_add]; rfl
  | j + 1, k, r, a => by rw [show j + 1 + k = (j + k) + 1 by omega, mltG, mlt_add x j k, mltG, show r + 1 + j = r + (j + 1) by omega]
theorem wa_eq {C M : SS} (x : Int64) : ∀ (k r : Nat) (a : Int64), (∀ q, r ≤ q → q < r + k → C.2 141 q = M.2 1 q) → waG C x k r a = mclG M x k r a
  | 0, _, _, _ => rfl
  | k + 1, r, a, h => by rw [waG, mclG, h r (by omega) (by omega), or_0, wa_eq x k (r + 1) _ (fun q h1 h2 => h q (by omega) (by omega))]
theorem mcl_0 {M : SS} (x : Int64) : ∀ (k r : Nat) (a : Int64), (∀ q, r ≤ q → q < r + k → M.2 1 q = 0) → mclG M x k r a = a
  | 0, _, _, _ => rfl
  | k + 1, r, a, h => by
    rw [mclG, h r (by omega) (by omega), or_0, mcl_0 x k (r + 1) _ (fun q h1 h2 => h q (by omega) (by omega))]
    split <;> rfl
theorem mcl_add {M : SS} (x : Int64) : ∀ (j k r : Nat) (a : Int64), mclG M x (j + k) r a = mclG M x k (r + j) (mclG M x j r a)
  | 0, k, r, a => by rw [Nat.zero_add]; rfl
  | j + 1, k, r, a => by rw [show j + 1 + k = (j + k) + 1 by omega, mclG, mcl_add x j k, mclG, show r + 1 + j = r + (j + 1) by omega]
theorem R_lt {C M : SS} {rc nc : Nat} (h : RC C M rc nc) (x a : Int64) : ltG C x rc 0 a = mltG M x 40 0 a := by
  have h40 := h.1.2.2.2.2.2.2.1
  rw [lt_eq x rc 0 a (fun q _ h2 => h.2.1 q (by omega)), show 40 = rc + (40 - rc) by omega, mlt_add, mlt_0 x (40 - rc) (0 + rc) _ (fun q h1 h2 => h.2.2.1 q (by omega) (by omega))]
theorem R_wa {C M : SS} {rc nc : Nat} (h : RC C M rc nc) (x a : Int64) : waG C x rc 0 a = mclG M x 40 0 a := by
  have h40 := h.1.2.2.2.2.2.2.1
  rw [wa_eq x rc 0 a (fun q _ h2 => h.2.1 q (by omega)), show 40 = rc + (40 - rc) by omega, mcl_add, mcl_0 x (40 - rc) (0 + rc) _ (fun q h1 h2 => h.2.2.1 q (by omega) (by omega))]
theorem R_mem {C M : SS} {rc nc : Nat} (h : RR C M rc nc) {i b : Nat} (hi : i < 2) (hb : b < 3) : ∀ (n k : Nat) (a : Int64), k + n ≤ 4 → memG C i b n k a = mmG M i b n k a
  | 0, _, _, _ => rfl
  | n + 1, k, a, hk => by
    rw [memG, mmG, (h.2.1 i hi).2.1, (h.2.1 i hi).2.2.2.2.1 (k * 3 + b) (by omega), or_0, R_mem h hi hb n (k + 1) _ (by omega), show 12 * i + (k * 3 + b) = 12 * i + 3 * k + b by omega]
theorem a_heads {C M : SS} {rc nc : Nat} (h : RR C M rc nc) {x y : Int32} (hc : cdHeads x y = 0) : ltG C (memG C (cn x) (cn y) 4 0 0) rc 0 (memG C (cn x) (cn y) 4 0 0) = mltG M (mmG M (cn x) (cn y) 4 0 0) 40 0 (mmG M (cn x) (cn y) 4 0 0) := by
  unfold cdHeads at hc
  obtain ⟨h1, hc⟩ := ite_ne0 (by omega) hc
  obtain ⟨h2, hc⟩ := ite_ne0 (by omega) hc
  rw [R_mem h (isP_cn h1).1 (inB_cn (by omega) h2).1 4 0 0 (by omega), R_lt h.1]
theorem R_snd {C M : SS} {rc nc : Nat} (h : RR C M rc nc) {i b : Nat} (hi : i < 2) (hb : b < 3) : sndX C rc i b = msnd M i b := by
  unfold sndX msnd
  rw [R_mem h hi hb 4 0 0 (by omega), R_wa h.1]
/-- a sum -/
def smG (F : Nat → Int32) : Nat → Nat → Int32 → Int32
  | 0, _, a => a
  | n + 1, k, a => smG F n (k + 1) (a + F k)
theorem smG_add (F G : Nat → Int32) : ∀ (n k : Nat) (a b : Int32), smG F n k a + smG G n k b = smG (fun q => F q + G q) n k (a + b)
  | 0, _, _, _ => rfl
  | n + 1, k, a, b => by
    rw [smG, smG, smG, smG_add F G n (k + 1)]
    congr 1
    ac_rfl
theorem smG_ext {F G : Nat → Int32} : ∀ (n k : Nat) (a : Int32), (∀ q, k ≤ q → q < k + n → F q = G q) → smG F n k a = smG G n k a
  | 0, _, _, _ => rfl
  | n + 1, k, a, h => by rw [smG, smG, h k (by omega) (by omega), smG_ext n (k + 1) _ (fun q h1 h2 => h q (by omega) (by omega))]
theorem rcvG_s {i j : Nat} (hij : i ≠ j) (hi : i < 2) (hj : j < 2) (s : Int64) : ∀ (m k : Nat) (n : Int32) (S : SS), (rcvG i j s m k n S).1 = smG (fun q => bc ((S.2 (130 + 5 * j) q &&& s) &&& (S.2 (130 + 5 * i) q ^^^ (-1)))) m k n ∧ (rcvG i j s m k n S).2.1 = S.1 ∧ ∀ a c, (rcvG i j s m k n S).2.2 a c = if a = 130 + 5 * i ∧ k ≤ c ∧ c < k + m then S.2 (130 + 5 * i) c ||| (S.2 (130 + 5 * j) c &&& s) else S.2 a c
  | 0, k, n, S => ⟨rfl, rfl, fun a c => by rw [rcvG, if_neg (by omega)]⟩
  | m + 1, k, n, S => by
    rw [rcvG]
    obtain ⟨h1, h2, h3⟩ := rcvG_s hij hi hj s m (k + 1) (n + bc ((S.2 (130 + 5 * j) k &&& s) &&& (S.2 (130 + 5 * i) k ^^^ (-1)))) (s2 S (130 + 5 * i) k (S.2 (130 + 5 * i) k ||| (S.2 (130 + 5 * j) k &&& s)))
    refine ⟨?_, h2, fun a c => ?_⟩
    · rw [h1, smG]
      refine smG_ext m (k + 1) _ (fun q q1 q2 => ?_)
      rw [s2_o _ _ _ _ (by omega), s2_o _ _ _ _ (by omega)]
    · rw [h3, s2_at, s2_at, s2_at]
      by_cases q : a = 130 + 5 * i ∧ k + 1 ≤ c ∧ c < k + 1 + m
      · rw [if_pos q, if_pos (show a = 130 + 5 * i ∧ k ≤ c ∧ c < k + (m + 1) by omega), if_neg (show ¬ (130 + 5 * i = 130 + 5 * i ∧ c = k) by omega), if_neg (show ¬ (130 + 5 * j = 130 + 5 * i ∧ c = k) by omega)]
      · rw [if_neg q]
        by_cases q2 : a = 130 + 5 * i ∧ c = k
        · rw [if_pos q2, if_pos (show a = 130 + 5 * i ∧ k ≤ c ∧ c < k + (m + 1) by omega), q2.2]
        · rw [if_neg q2, if_neg (show ¬ (a = 130 + 5 * i ∧ k ≤ c ∧ c < k + (m + 1)) by omega)]
theorem mxG_s (f g : Int64) : ∀ (m k : Nat) (n : Int32) (S : SS), k + m ≤ 12 → (mxG f g m k n S).1 = smG (fun q => mbG ((S.2 14 q &&& f) &&& (S.2 14 (12 + q) ^^^ (-1))) 64 0 (nI 0) + mbG ((S.2 14 (12 + q) &&& g) &&& (S.2 14 q ^^^ (-1))) 64 0 (nI 0)) m k n ∧ (mxG f g m k n S).2.1 = S.1 ∧
    ∀ a c, (mxG f g m k n S).2.2 a c = if a = 14 ∧ k ≤ c ∧ c < k + m then S.2 14 c ||| (S.2 14 (12 + c) &&& g) else if a = 14 ∧ 12 + k ≤ c ∧ c < 12 + k + m then S.2 14 c ||| (S.2 14 (c - 12) &&& f) else S.2 a c
  | 0, k, n, S, _ => ⟨rfl, rfl, fun a c => by rw [mxG, if_neg (by omega), if_neg (by omega)]⟩
  | m + 1, k, n, S, hk => by
    rw [mxG]
    obtain ⟨h1, h2, h3⟩ := mxG_s f g m (k + 1) (n + (mbG ((S.2 14 k &&& f) &&& (S.2 14 (12 + k) ^^^ (-1))) 64 0 (nI 0) + mbG ((S.2 14 (12 + k) &&& g) &&& (S.2 14 k ^^^ (-1))) 64 0 (nI 0)))
      (s2 (s2 S 14 (12 + k) (S.2 14 (12 + k) ||| (S.2 14 k &&& f))) 14 k ((s2 S 14 (12 + k) (S.2 14 (12 + k) ||| (S.2 14 k &&& f))).2 14 k ||| (S.2 14 (12 + k) &&& g))) (by omega)
    refine ⟨?_, h2, fun a c => ?_⟩
    · rw [h1, smG]
      refine smG_ext m (k + 1) _ (fun q q1 q2 => ?_)
      rw [s2_o _ _ _ _ (by omega), s2_o _ _ _ _ (by omega), s2_o _ _ _ _ (by omega), s2_o _ _ _ _ (by omega)]
    · rw [h3]
      by_cases q : a = 14 ∧ k + 1 ≤ c ∧ c < k + 1 + m
      · rw [if_pos q, if_pos (show a = 14 ∧ k ≤ c ∧ c < k + (m + 1) by omega), s2_o _ _ _ _ (by omega), s2_o _ _ _ _ (by omega), s2_o _ _ _ _ (by omega), s2_o _ _ _ _ (by omega)]
      · rw [if_neg q]
        by_cases q1 : a = 14 ∧ 12 + (k + 1) ≤ c ∧ c < 12 + (k + 1) + m
        · rw [if_pos q1, if_neg (show ¬ (a = 14 ∧ k ≤ c ∧ c < k + (m + 1)) by omega), if_pos (show a = 14 ∧ 12 + k ≤ c ∧ c < 12 + k + (m + 1) by omega), s2_o _ _ _ _ (by omega), s2_o _ _ _ _ (by omega), s2_o _ _ _ _ (by omega), s2_o _ _ _ _ (by omega)]
        · rw [if_neg q1, s2_at]
          by_cases q2 : a = 14 ∧ c = k
          · rw [if_pos q2, if_pos (show a = 14 ∧ k ≤ c ∧ c < k + (m + 1) by omega), q2.2, s2_o _ _ _ _ (by omega)]
          · rw [if_neg q2, if_neg (show ¬ (a = 14 ∧ k ≤ c ∧ c < k + (m + 1)) by omega), s2_at]
            by_cases q3 : a = 14 ∧ c = 12 + k
            · rw [if_pos q3, if_pos (show a = 14 ∧ 12 + k ≤ c ∧ c < 12 + k + (m + 1) by omega), q3.2, show 12 + k - 12 = k by omega]
            · rw [if_neg q3, if_neg (show ¬ (a = 14 ∧ 12 + k ≤ c ∧ c < 12 + k + (m + 1)) by omega)]
theorem x_or (a b f g : Int64) : a ||| ((b ||| (a &&& f)) &&& g) = a ||| (b &&& g) := by
  rw [← Int64.toBitVec_inj]
  simp only [Int64.toBitVec_or, Int64.toBitVec_and]
  apply BitVec.eq_of_getLsbD_eq
  intro i hi
  simp only [BitVec.getLsbD_or, BitVec.getLsbD_and]
  cases a.toBitVec.getLsbD i <;> cases b.toBitVec.getLsbD i <;> cases f.toBitVec.getLsbD i <;> cases g.toBitVec.getLsbD i <;> rfl
theorem x_and (a b f g : Int64) : ((b ||| (a &&& f)) &&& g) &&& (a ^^^ (-1)) = (b &&& g) &&& (a ^^^ (-1)) := by
  rw [← Int64.toBitVec_inj]
  simp only [Int64.toBitVec_or, Int64.toBitVec_and, Int64.toBitVec_xor]
  apply BitVec.eq_of_getLsbD_eq
  intro i hi
  have e : (-1 : Int64).toBitVec.getLsbD i = true := by
    have : (-1 : Int64).toBitVec = BitVec.allOnes 64 := by decide +kernel
    rw [this, BitVec.getLsbD_allOnes]; simpa using hi
  simp only [BitVec.getLsbD_or, BitVec.getLsbD_and, BitVec.getLsbD_xor, e]
  cases a.toBitVec.getLsbD i <;> cases b.toBitVec.getLsbD i <;> cases f.toBitVec.getLsbD i <;> cases g.toBitVec.getLsbD i <;> rfl
theorem x_exch {C M : SS} {rc nc : Nat} (h : RR C M rc nc) {b : Nat} (hb : b < 3) : (doExch C rc b).1 = (mdExch M b).1 ∧ RR (doExch C rc b).2 (mdExch M b).2 rc nc := by
  have e0 := R_snd h (show 0 < 2 by omega) hb
  have e1 := R_snd h (show 1 < 2 by omega) hb
  unfold doExch mdExch
  rw [e0, e1]
  generalize msnd M 0 b = f
  generalize msnd M 1 b = g
  obtain ⟨a1, a2, a3⟩ := rcvG_s (i := 1) (j := 0) (by omega) (by omega) (by omega) f 12 0 (bc (f &&& (C.2 (129 + 5 * 1) 0 ^^^ (-1)))) (s2 C (129 + 5 * 1) 0 (C.2 (129 + 5 * 1) 0 ||| f))
  have u1 : rcvS C 1 0 f = rcvG 1 0 f 12 0 (bc (f &&& (C.2 (129 + 5 * 1) 0 ^^^ (-1)))) (s2 C (129 + 5 * 1) 0 (C.2 (129 + 5 * 1) 0 ||| f)) := by rw [rcvS]
  rw [← u1] at a1 a2 a3
  generalize rcvS C 1 0 f = A at a1 a2 a3 ⊢
  obtain ⟨b1, b2, b3⟩ := rcvG_s (i := 0) (j := 1) (by omega) (by omega) (by omega) g 12 0 (bc (g &&& (A.2.2 (129 + 5 * 0) 0 ^^^ (-1)))) (s2 A.2 (129 + 5 * 0) 0 (A.2.2 (129 + 5 * 0) 0 ||| g))
  have u2 : rcvS A.2 0 1 g = rcvG 0 1 g 12 0 (bc (g &&& (A.2.2 (129 + 5 * 0) 0 ^^^ (-1)))) (s2 A.2 (129 + 5 * 0) 0 (A.2.2 (129 + 5 * 0) 0 ||| g)) := by rw [rcvS]
  rw [← u2] at b1 b2 b3
  generalize rcvS A.2 0 1 g = B at b1 b2 b3 ⊢
  obtain ⟨m1, m2, m3⟩ := mxG_s f g 12 0 (mbG (f &&& (M.2 10 1 ^^^ (-1))) 64 0 (nI 0) + mbG (g &&& (M.2 10 0 ^^^ (-1))) 64 0 (nI 0)) (s2 (s2 M 10 1 (M.2 10 1 ||| f)) 10 0 ((s2 M 10 1 (M.2 10 1 ||| f)).2 10 0 ||| g)) (by omega)
  generalize mxG f g 12 0 (mbG (f &&& (M.2 10 1 ^^^ (-1))) 64 0 (nI 0) + mbG (g &&& (M.2 10 0 ^^^ (-1))) 64 0 (nI 0)) (s2 (s2 M 10 1 (M.2 10 1 ||| f)) 10 0 ((s2 M 10 1 (M.2 10 1 ||| f)).2 10 0 ||| g)) = X at m1 m2 m3 ⊢
  obtain ⟨p0, p0b, p0c, p0d, p0e, p0f⟩ := h.2.1 0 (by omega)
  obtain ⟨p1, p1b, p1c, p1d, p1e, p1f⟩ := h.2.1 1 (by omega)
  have hA129 : A.2.2 (129 + 5 * 0) 0 = M.2 10 0 := by
    rw [a3, if_neg (by omega), s2_o _ _ _ _ (by omega)]; exact p0
  have hA130 : ∀ q, q < 12 → A.2.2 (130 + 5 * 0) q = M.2 14 q := fun q hq => by
    rw [a3, if_neg (by omega), s2_o _ _ _ _ (by omega), p0e q hq, Nat.mul_zero, Nat.zero_add]
  have hA135 : ∀ q, q < 12 → A.2.2 (130 + 5 * 1) q = M.2 14 (12 + q) ||| (M.2 14 q &&& f) := fun q hq => by
    rw [a3, if_pos (by omega), s2_o _ _ _ _ (by omega), s2_o _ _ _ _ (by omega), p0e q hq, p1e q hq, Nat.mul_zero, Nat.zero_add, Nat.mul_one]
  have hm14 : ∀ q, (s2 (s2 M 10 1 (M.2 10 1 ||| f)) 10 0 ((s2 M 10 1 (M.2 10 1 ||| f)).2 10 0 ||| g)).2 14 q = M.2 14 q := fun q => by rw [s2_o _ _ _ _ (by omega), s2_o _ _ _ _ (by omega)]
  constructor
  · show A.1 + B.1 = X.1
    rw [a1, b1, m1, smG_add]
    rw [p1, hA129, bc_mb, bc_mb]
    refine smG_ext 12 0 _ (fun q q1 q2 => ?_)
    show bc _ + bc _ = _
    rw [s2_o C _ _ _ (by omega), s2_o C _ _ _ (by omega), s2_o A.2 _ _ _ (by omega), s2_o A.2 _ _ _ (by omega), hm14, hm14, hA130 q (by omega), hA135 q (by omega), p0e q (by omega), p1e q (by omega), bc_mb, bc_mb, Nat.mul_zero, Nat.zero_add, Nat.mul_one, x_and]
  · have B1 : B.2.1 = C.1 := by rw [b2, s2_1, a2]; rfl
    have X1 : X.2.1 = M.1 := by rw [m2]; rfl
    have B2 : ∀ a c, ¬ (129 ≤ a ∧ a < 139) → B.2.2 a c = C.2 a c := fun a c q => by
      rw [b3, if_neg (by omega), s2_o _ _ _ _ (by omega), a3, if_neg (by omega), s2_o _ _ _ _ (by omega)]
    have X2 : ∀ a c, a ≤ 9 → X.2.2 a c = M.2 a c := fun a c q => by
      rw [m3, if_neg (by omega), if_neg (by omega), s2_o _ _ _ _ (by omega), s2_o _ _ _ _ (by omega)]
    refine RR_peer h (fun a c _ => by rw [B1]) (fun a c q => B2 _ _ (by omega)) (fun a c _ => by rw [B1]) (fun a c q => B2 _ _ (by omega)) (fun a c _ => by rw [X1]) (fun a c q => X2 _ _ q) (fun j hj => ?_)
    rcases (show j = 0 ∨ j = 1 by omega) with rfl | rfl
    · refine ⟨?_, by rw [B1, X1]; exact p0b, by rw [B1, X1]; exact p0c, by rw [B1, X1]; exact p0d, fun k hk => ?_, by rw [B1, X1]; exact p0f⟩
      · rw [b3, if_neg (by omega), s2_h, m3, if_neg (by omega), if_neg (by omega), s2_h, s2_o _ _ _ _ (by omega), hA129]
      · rw [b3, if_pos (by omega), s2_o _ _ _ _ (by omega), s2_o _ _ _ _ (by omega), m3, if_pos (by omega), hm14, hm14, hA130 k hk, hA135 k hk, Nat.mul_zero, Nat.zero_add, x_or]
    · refine ⟨?_, by rw [B1, X1]; exact p1b, by rw [B1, X1]; exact p1c, by rw [B1, X1]; exact p1d, fun k hk => ?_, by rw [B1, X1]; exact p1f⟩
      · rw [b3, if_neg (by omega), s2_o _ _ _ _ (by omega), a3, if_neg (by omega), s2_h, m3, if_neg (by omega), if_neg (by omega), s2_o _ _ _ _ (by omega), s2_h, p1]
      · rw [b3, if_neg (by omega), s2_o _ _ _ _ (by omega), hA135 k hk, m3, if_neg (by omega), if_pos (by omega), hm14, hm14, Nat.mul_one, show 12 + k - 12 = k by omega]
