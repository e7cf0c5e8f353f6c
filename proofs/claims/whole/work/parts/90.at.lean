/-! THE TWO STORES, place by place -/
theorem s1_at (S : SS) (k j : Nat) (x : Int32) (a b : Nat) : (s1 S k j x).1 a b = if a = k ∧ b = j then x else S.1 a b := by
  by_cases h : a = k
  · subst h
    rw [s1_eq]
    by_cases hb : b = j
    · subst hb; rw [pk_us, if_pos ⟨rfl, rfl⟩]
    · rw [pk_un hb, if_neg (fun z => hb z.2)]
  · rw [s1_ne _ _ _ _ h, if_neg (fun z => h z.1)]
theorem s2_at (S : SS) (k j : Nat) (x : Int64) (a b : Nat) : (s2 S k j x).2 a b = if a = k ∧ b = j then x else S.2 a b := by
  by_cases h : a = k
  · subst h
    rw [s2_eq]
    by_cases hb : b = j
    · subst hb; rw [pk_uLs, if_pos ⟨rfl, rfl⟩]
    · rw [pk_uLn hb, if_neg (fun z => hb z.2)]
  · rw [s2_ne _ _ _ _ h, if_neg (fun z => h z.1)]
theorem s1_o (S : SS) (k j : Nat) (x : Int32) {a b : Nat} (h : ¬ (a = k ∧ b = j)) : (s1 S k j x).1 a b = S.1 a b := by rw [s1_at, if_neg h]
theorem s1_h (S : SS) (k j : Nat) (x : Int32) : (s1 S k j x).1 k j = x := by rw [s1_at, if_pos ⟨rfl, rfl⟩]
theorem s2_o (S : SS) (k j : Nat) (x : Int64) {a b : Nat} (h : ¬ (a = k ∧ b = j)) : (s2 S k j x).2 a b = S.2 a b := by rw [s2_at, if_neg h]
theorem s2_h (S : SS) (k j : Nat) (x : Int64) : (s2 S k j x).2 k j = x := by rw [s2_at, if_pos ⟨rfl, rfl⟩]
theorem SS_ext {S T : SS} (h1 : ∀ a b, S.1 a b = T.1 a b) (h2 : ∀ a b, S.2 a b = T.2 a b) : S = T := by
  obtain ⟨a, b⟩ := S
  obtain ⟨c, d⟩ := T
  have e1 : a = c := by funext x y; exact h1 x y
  have e2 : b = d := by funext x y; exact h2 x y
  rw [e1, e2]
theorem mT_of {S : SS} (h : S.1 0 0 = nI 0) : mT S = S := by
  refine SS_ext (fun a b => ?_) (fun a b => rfl)
  unfold mT
  rw [s1_at]
  split
  · rename_i z; rw [z.1, z.2, h]
  · rfl
theorem mT_mT (S : SS) (k : Int32) : mT (s1 (mT S) 0 0 k) = mT S := by
  refine SS_ext (fun a b => ?_) (fun a b => rfl)
  unfold mT
  rw [s1_at, s1_at, s1_at]
  split <;> rfl
theorem cfS_1a (S : SS) (t u a b : Nat) : (cfS S t u).1 a b = if a = 3 * t ∧ b = 0 then S.1 (3 * u) 0 else if a = 3 * t + 1 ∧ b < 48 then S.1 (3 * u + 1) b else S.1 a b := by
  unfold cfS
  show (r1 _ _ _).1 a b = _
  unfold r1
  by_cases h1 : a = 3 * t + 1
  · subst h1
    simp only [if_pos]
    unfold va_cpy
    by_cases hb : b < 48
    · rw [if_pos (show 0 ≤ b ∧ b < 0 + 48 by omega), if_neg (show ¬ (3 * t + 1 = 3 * t ∧ b = 0) by omega), if_pos (show True ∧ b < 48 from ⟨trivial, hb⟩), s1_o _ _ _ _ (by omega)]
      exact congrArg _ (by omega)
    · rw [if_neg (show ¬ (0 ≤ b ∧ b < 0 + 48) by omega), if_neg (show ¬ (3 * t + 1 = 3 * t ∧ b = 0) by omega), if_neg (show ¬ (True ∧ b < 48) from fun z => hb z.2), s1_o _ _ _ _ (by omega)]
  · simp only [if_neg h1]
    rw [s1_at]
    repeat' split
    all_goals first | rfl | (exfalso; omega)
theorem cfS_2a (S : SS) (t u a b : Nat) : (cfS S t u).2 a b = if a = 3 * t + 2 ∧ b < 48 then S.2 (3 * u + 2) b else S.2 a b := by
  unfold cfS
  show (r2 _ _ _).2 a b = _
  unfold r2
  by_cases h1 : a = 3 * t + 2
  · subst h1
    simp only [if_pos]
    unfold va_cpy
    by_cases hb : b < 48
    · rw [if_pos (show 0 ≤ b ∧ b < 0 + 48 by omega), if_pos (show True ∧ b < 48 from ⟨trivial, hb⟩)]
      show S.2 _ _ = _
      exact congrArg _ (by omega)
    · rw [if_neg (show ¬ (0 ≤ b ∧ b < 0 + 48) by omega), if_neg (show ¬ (True ∧ b < 48) from fun z => hb z.2)]
      rfl
  · simp only [if_neg h1]
    show S.2 a b = _
    repeat' split
    all_goals first | rfl | (exfalso; omega)
theorem cp1_1 (k : Nat) (S : SS) (f t n a b : Nat) : (cp1 k S f t n).1 a b = if a = k ∧ b = 16 * t + n then S.1 k (16 * f + n) else S.1 a b := s1_at _ _ _ _ _ _
theorem mcnW_1 (f t n : Nat) : ∀ (k w : Nat) (S : SS), (mcnW f t n k w S).1 = S.1
  | 0, _, _ => rfl
  | k + 1, w, S => by rw [mcnW, mcnW_1 f t n k]; rfl
theorem mcnW_2 {f t : Nat} (hft : f ≠ t) {n : Nat} (hn : n < 16) : ∀ (k w : Nat) (S : SS), w + k ≤ 3 → ∀ a b : Nat, (mcnW f t n k w S).2 a b = if a = 9 ∧ 48 * t + 3 * n + w ≤ b ∧ b < 48 * t + 3 * n + w + k then S.2 9 (48 * f + (b - 48 * t)) else S.2 a b
  | 0, w, S, _, a, b => by rw [mcnW, if_neg (by omega)]
  | k + 1, w, S, hw, a, b => by
    rw [mcnW, mcnW_2 hft hn k (w + 1) _ (by omega) a b, s2_at, s2_at]
    repeat' split
    all_goals first | rfl | (exfalso; omega) | (refine congrArg _ ?_; omega)
theorem mcn_1 {f t : Nat} (S : SS) (hft : f ≠ t) {n : Nat} (hn : n < 16) (a b : Nat) : (mcn S f t n).1 a b = if (5 ≤ a ∧ a ≤ 8) ∧ b = 16 * t + n then S.1 a (16 * f + n) else S.1 a b := by
  unfold mcn
  rw [mcnW_1]
  simp only [cp1_1]
  by_cases h : (5 ≤ a ∧ a ≤ 8) ∧ b = 16 * t + n
  · rw [if_pos h]
    obtain ⟨⟨h1, h2⟩, rfl⟩ := h
    rcases (show a = 5 ∨ a = 6 ∨ a = 7 ∨ a = 8 by omega) with rfl | rfl | rfl | rfl <;> (repeat' split) <;> first | rfl | (exfalso; omega)
  · rw [if_neg h]
    repeat' split
    all_goals first | rfl | (exfalso; omega)
theorem mcn_2 {f t : Nat} (S : SS) (hft : f ≠ t) {n : Nat} (hn : n < 16) (a b : Nat) : (mcn S f t n).2 a b = if a = 9 ∧ 48 * t + 3 * n ≤ b ∧ b < 48 * t + 3 * n + 3 then S.2 9 (48 * f + (b - 48 * t)) else S.2 a b := by
  unfold mcn
  rw [mcnW_2 hft hn 3 0 _ (by omega) a b]
  rfl
theorem mctG_1 {f t : Nat} (hft : f ≠ t) : ∀ (k n : Nat) (S : SS), n + k ≤ 16 → ∀ a b : Nat, (mctG f t k n S).1 a b = if (5 ≤ a ∧ a ≤ 8) ∧ 16 * t + n ≤ b ∧ b < 16 * t + n + k then S.1 a (16 * f + (b - 16 * t)) else S.1 a b
  | 0, n, S, _, a, b => by rw [mctG, if_neg (by omega)]
  | k + 1, n, S, hn, a, b => by
    rw [mctG, mctG_1 hft k (n + 1) _ (by omega) a b, mcn_1 S hft (by omega), mcn_1 S hft (by omega)]
    repeat' split
    all_goals first | rfl | (exfalso; omega) | (refine congrArg _ ?_; omega)
theorem mctG_2 {f t : Nat} (hft : f ≠ t) : ∀ (k n : Nat) (S : SS), n + k ≤ 16 → ∀ a b : Nat, (mctG f t k n S).2 a b = if a = 9 ∧ 48 * t + 3 * n ≤ b ∧ b < 48 * t + 3 * (n + k) then S.2 9 (48 * f + (b - 48 * t)) else S.2 a b
  | 0, n, S, _, a, b => by rw [mctG, if_neg (by omega)]
  | k + 1, n, S, hn, a, b => by
    rw [mctG, mctG_2 hft k (n + 1) _ (by omega) a b, mcn_2 S hft (by omega), mcn_2 S hft (by omega)]
    repeat' split
    all_goals first | rfl | (exfalso; omega) | (refine congrArg _ ?_; omega)
theorem mct_1 {f t : Nat} (S : SS) (hft : f ≠ t) (a b : Nat) : (mct S f t).1 a b = if a = 4 ∧ b = t then S.1 4 f else if (5 ≤ a ∧ a ≤ 8) ∧ 16 * t ≤ b ∧ b < 16 * t + 16 then S.1 a (16 * f + (b - 16 * t)) else S.1 a b := by
  unfold mct
  rw [mctG_1 hft 16 0 _ (by omega) a b, s1_at, s1_at]
  repeat' split
  all_goals first | rfl | (exfalso; omega) | (refine congrArg _ ?_; omega)
theorem mct_2 {f t : Nat} (S : SS) (hft : f ≠ t) (a b : Nat) : (mct S f t).2 a b = if a = 9 ∧ 48 * t ≤ b ∧ b < 48 * t + 48 then S.2 9 (48 * f + (b - 48 * t)) else S.2 a b := by
  unfold mct
  rw [mctG_2 hft 16 0 _ (by omega) a b]
  rfl
/-! bits -/
theorem ti_or (x y : Int32) (k : Nat) : ti (x ||| y) k = (ti x k || ti y k) := by unfold ti; rw [Int32.toBitVec_or, BitVec.getLsbD_or]
theorem ti_and (x y : Int32) (k : Nat) : ti (x &&& y) k = (ti x k && ti y k) := by unfold ti; rw [Int32.toBitVec_and, BitVec.getLsbD_and]
theorem tb_or (x y : Int64) (k : Nat) : tb (x ||| y) k = (tb x k || tb y k) := by unfold tb; rw [Int64.toBitVec_or, BitVec.getLsbD_or]
theorem tb_and (x y : Int64) (k : Nat) : tb (x &&& y) k = (tb x k && tb y k) := by unfold tb; rw [Int64.toBitVec_and, BitVec.getLsbD_and]
theorem ti_one {n j : Nat} (hn : n < 32) (hj : j < 32) : ti (nI 1 <<< (nI n &&& 31)) j = decide (j = n) := by
  have h : ∀ n : Fin 32, ∀ j : Fin 32, ti (nI 1 <<< (nI n.val &&& 31)) j.val = decide (j.val = n.val) := by decide +kernel
  exact h ⟨n, hn⟩ ⟨j, hj⟩
theorem ti_not {n j : Nat} (hn : n < 32) (hj : j < 32) : ti ((nI 1 <<< (nI n &&& 31)) ^^^ (-1)) j = !decide (j = n) := by
  have h : ∀ n : Fin 32, ∀ j : Fin 32, ti ((nI 1 <<< (nI n.val &&& 31)) ^^^ (-1)) j.val = !decide (j.val = n.val) := by decide +kernel
  exact h ⟨n, hn⟩ ⟨j, hj⟩
theorem tb_b64 {n j : Nat} (hn : n < 64) (hj : j < 64) : tb (b64 n) j = decide (j = n) := by
  have h : ∀ n : Fin 64, ∀ j : Fin 64, tb (b64 n.val) j.val = decide (j.val = n.val) := by decide +kernel
  exact h ⟨n, hn⟩ ⟨j, hj⟩
theorem ti_nI1 {j : Nat} (hj : j < 32) : ti (nI 1) j = decide (j = 0) := by
  have h : ∀ j : Fin 32, ti (nI 1) j.val = decide (j.val = 0) := by decide +kernel
  exact h ⟨j, hj⟩
theorem ti_nI0 {j : Nat} (hj : j < 32) : ti (nI 0) j = false := by
  have h : ∀ j : Fin 32, ti (nI 0) j.val = false := by decide +kernel
  exact h ⟨j, hj⟩
theorem tb_0 {j : Nat} (hj : j < 64) : tb 0 j = false := by
  have h : ∀ j : Fin 64, tb 0 j.val = false := by decide +kernel
  exact h ⟨j, hj⟩
theorem and_n0 (a : Int64) : a &&& (0 ^^^ (-1)) = a := by
  have : (0 ^^^ (-1) : Int64) = -1 := by decide +kernel
  rw [this, Int64.and_neg_one]
