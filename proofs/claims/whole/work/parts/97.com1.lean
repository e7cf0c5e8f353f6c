/-! commit -/
theorem allG_iff (p : Nat → Bool) : ∀ (n i : Nat), allG p n i = true ↔ ∀ j, i ≤ j → j < i + n → p j = true
  | 0, i => ⟨fun _ j h1 h2 => by omega, fun _ => rfl⟩
  | n + 1, i => by
    rw [allG, Bool.and_eq_true, allG_iff p n (i + 1)]
    constructor
    · rintro ⟨h1, h2⟩ j h3 h4
      by_cases e : j = i
      · rw [e]; exact h1
      · exact h2 j (by omega) (by omega)
    · exact fun h => ⟨h i (by omega) (by omega), fun j h1 h2 => h j (by omega) (by omega)⟩
theorem eqG_iff (S : SS) (t u : Nat) : ∀ (k n : Nat) (e : Bool), eqG S t u k n e = true ↔ e = true ∧ ∀ j, n ≤ j → j < n + k → ti (S.1 4 t) j = true → (sameM S t u j 0 && sameM S t u j 1 && sameM S t u j 2) = true
  | 0, n, e => ⟨fun h => ⟨h, fun j h1 h2 => by omega⟩, fun h => h.1⟩
  | k + 1, n, e => by
    rw [eqG]
    cases e with
    | false => simp
    | true =>
      rw [if_pos rfl, eqG_iff S t u k (n + 1)]
      constructor
      · rintro ⟨h1, h2⟩
        refine ⟨rfl, fun j h3 h4 h5 => ?_⟩
        by_cases e : j = n
        · subst e; rw [if_pos h5] at h1; exact h1
        · exact h2 j (by omega) (by omega) h5
      · rintro ⟨_, h⟩
        refine ⟨?_, fun j h1 h2 => h j (by omega) (by omega)⟩
        split
        · rename_i q; exact h n (by omega) (by omega) q
        · rfl
theorem R_same {C M : SS} {nc t u t' u' : Nat} (h : RT C M nc t u) (h' : RT C M nc t' u') {n w : Nat} (h1 : 1 ≤ n) (hn : n < 16) (hw : w < 3) (ha : ti (C.1 (3 * t) 0) n = true) (ha' : ti (C.1 (3 * t') 0) n = true) :
    (C.1 (3 * t + 1) (n * 3 + w) = C.1 (3 * t' + 1) (n * 3 + w)) ↔ sameM M u u' n w = true := by
  obtain ⟨x, y, hx, hy, e1, e2, e3, _⟩ := h.2.2.2.2.2.1 n h1 hn ha
  obtain ⟨x', y', hx', hy', e1', e2', e3', _⟩ := h'.2.2.2.2.2.1 n h1 hn ha'
  have c := h.2.2.2.2.1 n hn ha
  have c' := h'.2.2.2.2.1 n hn ha'
  unfold sameM
  rcases (show w = 0 ∨ w = 1 ∨ w = 2 by omega) with rfl | rfl | rfl
  · rw [if_pos rfl, Bool.and_eq_true, beq_iff_eq, beq_iff_eq]
    show C.1 (3 * t + 1) (n * 3) = C.1 (3 * t' + 1) (n * 3) ↔ _
    have e2 : M.1 5 (16 * u + n) = nI x := e2
    have e3 : M.1 6 (16 * u + n) = nI y := e3
    have e2' : M.1 5 (16 * u' + n) = nI x' := e2'
    have e3' : M.1 6 (16 * u' + n) = nI y' := e3'
    rw [e1, e1', e2, e2', e3, e3']
    exact pl_inj hx hy hx' hy'
  · rw [if_neg (by decide), if_pos rfl, beq_iff_eq, c.1, c'.1]
  · rw [if_neg (by decide), if_neg (by decide), beq_iff_eq, c.2, c'.2]
theorem R_eqT {C M : SS} {nc t u t' u' : Nat} (h : RT C M nc t u) (h' : RT C M nc t' u') : sameB C t t' = eqT M u u' := by
  rw [Bool.eq_iff_iff]
  unfold sameB eqT
  rw [eqG_iff, decide_eq_true_eq, ← h.1, ← h'.1]
  by_cases e : C.1 (3 * t) 0 = C.1 (3 * t') 0
  · rw [if_pos e, allG_iff]
    constructor
    · intro hh
      refine ⟨e, fun j h1 h2 ha => ?_⟩
      have := (allG_iff _ 3 0).mp (hh j h1 h2)
      have hs : ∀ w, w < 3 → sameM M u u' j w = true := by
        intro w hw
        have q := this w (by omega) (by omega)
        rw [ha] at q
        rw [← R_same h h' h1 (by omega) hw ha (by rw [← e]; exact ha)]
        simpa using q
      rw [hs 0 (by omega), hs 1 (by omega), hs 2 (by omega)]; rfl
    · rintro ⟨_, hh⟩ j h1 h2
      rw [allG_iff]
      intro w _ hw
      show (!_ || _) = true
      cases ha : ti (C.1 (3 * t) 0) j with
      | false => rfl
      | true =>
        have q := hh j h1 h2 ha
        rw [Bool.and_eq_true, Bool.and_eq_true] at q
        have hs : sameM M u u' j w = true := by
          rcases (show w = 0 ∨ w = 1 ∨ w = 2 by omega) with rfl | rfl | rfl
          · exact q.1.1
          · exact q.1.2
          · exact q.2
        have := (R_same h h' h1 (by omega) (by omega) ha (by rw [← e]; exact ha)).mpr hs
        simp [this]
  · rw [if_neg e]
    exact ⟨fun z => (by cases z), fun z => absurd z.1 e⟩
theorem R_baseI {C M : SS} {rc nc : Nat} (h : RR C M rc nc) {i : Nat} (hi : i < 2) (hb : ¬ C.1 (129 + 5 * i) 4 = -1) : ∃ b, b < rc ∧ C.1 (129 + 5 * i) 4 = nI b ∧ M.1 11 i = nI b := by
  obtain ⟨e, q⟩ := (h.2.1 i hi).2.2.2.1
  rcases q with q | ⟨b, hb, eb⟩
  · rw [e] at hb; exact absurd q hb
  · exact ⟨b, hb, by rw [e, eb], eb⟩
theorem e_commit {C M : SS} {rc nc : Nat} (h : RR C M rc nc) (x : Int32) : l2 (cdCommit C rc x) = mcCommit M rc x := by
  have h40 := h.1.1.2.2.2.2.2.2.1
  unfold cdCommit mcCommit
  by_cases h1 : isP x = true
  · rw [if_pos h1, if_pos h1]
    have hi := (isP_cn h1).1
    by_cases hb : C.1 (129 + 5 * cn x) 4 = -1
    · rw [if_pos hb, if_pos (i_nge ((R_base h hi).mp hb))]; rfl
    · obtain ⟨b, hb1, hb2, hb3⟩ := R_baseI h hi hb
      rw [if_neg hb, hb2, hb3, if_neg (nI_pos (by omega)), cn_nI (by omega), R_eqT (h.2.2.2 (cn x) hi) (h.2.2.1 b hb1).1]
      by_cases q : eqT M (40 + cn x) b = true
      · rw [if_pos q, if_pos q]; rfl
      · rw [if_neg q, if_neg q]
        by_cases q2 : rc < 40
        · rw [if_pos q2, if_neg (show ¬ rc = 40 by omega)]; rfl
        · rw [if_neg q2, if_pos (show rc = 40 by omega)]; rfl
  · rw [if_neg h1, if_neg h1]; rfl
theorem mcW_1 (r b i : Nat) (nw : Bool) : ∀ (k w : Nat) (S : SS), (mcW r b i nw k w S).1 = S.1
  | 0, _, _ => rfl
  | k + 1, w, S => by rw [mcW, mcW_1 r b i nw k]; rfl
theorem mcW_2 {r b : Nat} (hrb : b ≠ r) {i : Nat} (nw : Bool) : ∀ (k w : Nat) (S : SS) (a c : Nat), (mcW r b i nw k w S).2 a c = if a = 3 * r + 2 ∧ i * 3 + w ≤ c ∧ c < i * 3 + w + k then (if nw = true ∨ S.1 (3 * r + 1) c ≠ S.1 (3 * b + 1) c then b64 r else S.2 (3 * b + 2) c) else S.2 a c
  | 0, w, S, a, c => by rw [mcW, if_neg (by omega)]
  | k + 1, w, S, a, c => by
    rw [mcW, mcW_2 hrb nw k (w + 1), s2_1, s2_at, s2_at]
    by_cases q : a = 3 * r + 2 ∧ i * 3 + (w + 1) ≤ c ∧ c < i * 3 + (w + 1) + k
    · rw [if_pos q, if_pos (show a = 3 * r + 2 ∧ i * 3 + w ≤ c ∧ c < i * 3 + w + (k + 1) by omega), if_neg (show ¬ (3 * b + 2 = 3 * r + 2 ∧ c = i * 3 + w) by omega)]
    · rw [if_neg q]
      by_cases q2 : a = 3 * r + 2 ∧ c = i * 3 + w
      · rw [if_pos q2, if_pos (show a = 3 * r + 2 ∧ i * 3 + w ≤ c ∧ c < i * 3 + w + (k + 1) by omega), q2.2]
      · rw [if_neg q2, if_neg (show ¬ (a = 3 * r + 2 ∧ i * 3 + w ≤ c ∧ c < i * 3 + w + (k + 1)) by omega)]
theorem mcI_1 (r b i : Nat) (S : SS) (a c : Nat) : (mcI r b i S).1 a c = if a = 142 ∧ c = i ∧ ti (S.1 (3 * r) 0) i = true ∧ ti (S.1 (3 * b) 0) i = false then nI r else S.1 a c := by
  unfold mcI
  by_cases h1 : ti (S.1 (3 * r) 0) i = true
  · rw [if_pos h1]
    by_cases h2 : ti (S.1 (3 * b) 0) i = true
    · rw [if_pos h2, mcW_1, if_neg (fun z => by rw [h2] at z; cases z.2.2.2)]
    · rw [if_neg h2, mcW_1, s1_at]
      exact if_of2 ⟨fun z => ⟨z.1, z.2, h1, Bool.not_eq_true _ ▸ h2⟩, fun z => ⟨z.1, z.2.1⟩⟩ (fun _ => rfl) (fun _ => rfl)
  · rw [if_neg h1, if_neg (fun z => h1 z.2.2.1)]
theorem mcI_2 {r b : Nat} (hr : r < 40) (hb : b < 40) (hrb : b ≠ r) (i : Nat) (S : SS) (a c : Nat) : (mcI r b i S).2 a c = if a = 3 * r + 2 ∧ i * 3 ≤ c ∧ c < i * 3 + 3 ∧ ti (S.1 (3 * r) 0) i = true then (if ti (S.1 (3 * b) 0) i = false ∨ S.1 (3 * r + 1) c ≠ S.1 (3 * b + 1) c then b64 r else S.2 (3 * b + 2) c) else S.2 a c := by
  unfold mcI
  by_cases h1 : ti (S.1 (3 * r) 0) i = true
  · rw [if_pos h1]
    by_cases h2 : ti (S.1 (3 * b) 0) i = true
    · rw [if_pos h2, mcW_2 hrb]
      exact if_of2 ⟨fun z => ⟨z.1, z.2.1, z.2.2, h1⟩, fun z => ⟨z.1, z.2.1, z.2.2.1⟩⟩ (fun _ => if_of2 ⟨fun z => z.elim (fun z => by cases z) Or.inr, fun z => z.elim (fun z => by rw [h2] at z; cases z) Or.inr⟩ (fun _ => rfl) (fun _ => rfl)) (fun _ => rfl)
    · rw [if_neg h2, mcW_2 hrb, s1_ne _ _ _ _ (by omega), s1_ne _ _ _ _ (by omega), s1_2]
      exact if_of2 ⟨fun z => ⟨z.1, z.2.1, z.2.2, h1⟩, fun z => ⟨z.1, z.2.1, z.2.2.1⟩⟩ (fun _ => if_of2 ⟨fun _ => Or.inl (Bool.not_eq_true _ ▸ h2), fun _ => Or.inl rfl⟩ (fun _ => rfl) (fun _ => rfl)) (fun _ => rfl)
  · rw [if_neg h1, if_neg (fun z => h1 z.2.2.2)]
theorem mcN_1 {r b : Nat} (hr : r < 40) (hb : b < 40) : ∀ (k n : Nat) (S : SS) (a c : Nat), (mcN r b k n S).1 a c = if a = 142 ∧ n ≤ c ∧ c < n + k ∧ ti (S.1 (3 * r) 0) c = true ∧ ti (S.1 (3 * b) 0) c = false then nI r else S.1 a c
  | 0, n, S, a, c => by rw [mcN, if_neg (by omega)]
  | k + 1, n, S, a, c => by
    have e : ∀ t c', t < 40 → (mcI r b n S).1 (3 * t) c' = S.1 (3 * t) c' := fun t c' ht => by rw [mcI_1, if_neg (by omega)]
    rw [mcN, mcN_1 hr hb k (n + 1), e r _ hr, e b _ hb, mcI_1]
    by_cases q : a = 142 ∧ n + 1 ≤ c ∧ c < n + 1 + k ∧ ti (S.1 (3 * r) 0) c = true ∧ ti (S.1 (3 * b) 0) c = false
    · rw [if_pos q, if_pos ⟨q.1, by omega, by omega, q.2.2.2⟩]
    · rw [if_neg q]
      by_cases q2 : a = 142 ∧ c = n ∧ ti (S.1 (3 * r) 0) n = true ∧ ti (S.1 (3 * b) 0) n = false
      · obtain ⟨q3, rfl, q4⟩ := q2
        rw [if_pos ⟨q3, rfl, q4⟩, if_pos ⟨q3, by omega, by omega, q4⟩]
      · rw [if_neg q2, if_neg]
        rintro ⟨z1, z2, z3, z4⟩
        by_cases e : c = n
        · subst e; exact q2 ⟨z1, rfl, z4⟩
        · exact q ⟨z1, by omega, by omega, z4⟩
theorem mcN_2 {r b : Nat} (hr : r < 40) (hb : b < 40) (hrb : b ≠ r) : ∀ (k n : Nat) (S : SS) (a c : Nat), (mcN r b k n S).2 a c = if a = 3 * r + 2 ∧ n * 3 ≤ c ∧ c < (n + k) * 3 ∧ ti (S.1 (3 * r) 0) (c / 3) = true then (if ti (S.1 (3 * b) 0) (c / 3) = false ∨ S.1 (3 * r + 1) c ≠ S.1 (3 * b + 1) c then b64 r else S.2 (3 * b + 2) c) else S.2 a c
  | 0, n, S, a, c => by rw [mcN, if_neg (by omega)]
  | k + 1, n, S, a, c => by
    have e : ∀ t c', t ≠ 142 → (mcI r b n S).1 t c' = S.1 t c' := fun t c' ht => by rw [mcI_1, if_neg (by omega)]
    have e2 : (mcI r b n S).2 (3 * b + 2) c = S.2 (3 * b + 2) c := by rw [mcI_2 hr hb hrb, if_neg (by omega)]
    rw [mcN, mcN_2 hr hb hrb k (n + 1), e _ _ (by omega), e _ _ (by omega), e _ _ (by omega), e _ _ (by omega), e2, mcI_2 hr hb hrb]
    by_cases q : a = 3 * r + 2 ∧ (n + 1) * 3 ≤ c ∧ c < (n + 1 + k) * 3 ∧ ti (S.1 (3 * r) 0) (c / 3) = true
    · rw [if_pos q, if_pos (show a = 3 * r + 2 ∧ n * 3 ≤ c ∧ c < (n + (k + 1)) * 3 ∧ ti (S.1 (3 * r) 0) (c / 3) = true from ⟨q.1, by omega, by omega, q.2.2.2⟩)]
    · rw [if_neg q]
      by_cases q2 : a = 3 * r + 2 ∧ n * 3 ≤ c ∧ c < n * 3 + 3 ∧ ti (S.1 (3 * r) 0) n = true
      · have ec : c / 3 = n := by omega
        rw [if_pos q2, if_pos (show a = 3 * r + 2 ∧ n * 3 ≤ c ∧ c < (n + (k + 1)) * 3 ∧ ti (S.1 (3 * r) 0) (c / 3) = true from ⟨q2.1, by omega, by omega, by rw [ec]; exact q2.2.2.2⟩), ec]
      · rw [if_neg q2, if_neg]
        rintro ⟨z1, z2, z3, z4⟩
        by_cases e : c / 3 = n
        · rw [e] at z4; exact q2 ⟨z1, by omega, by omega, z4⟩
        · exact q ⟨z1, by omega, by omega, z4⟩
theorem sameM_s2 (S : SS) (k j : Nat) (x : Int64) (t u n w : Nat) : sameM (s2 S k j x) t u n w = sameM S t u n w := rfl
theorem sameM_s1 (S : SS) {k : Nat} (hk : k ≤ 4) (j : Nat) (x : Int32) (t u n w : Nat) : sameM (s1 S k j x) t u n w = sameM S t u n w := by
  unfold sameM
  rw [s1_ne _ _ _ _ (by omega), s1_ne _ _ _ _ (by omega), s1_ne _ _ _ _ (by omega), s1_ne _ _ _ _ (by omega)]
theorem mkW_1 (r b n : Nat) (fr : Bool) : ∀ (k w : Nat) (S : SS), (mkW r b n fr k w S).1 = S.1
  | 0, _, _ => rfl
  | k + 1, w, S => by rw [mkW, mkW_1 r b n fr k]; rfl
theorem mkW_o (r b n : Nat) (fr : Bool) : ∀ (k w : Nat) (S : SS) (a c : Nat), ¬ (a = 9 ∧ 48 * r + 3 * n + w ≤ c ∧ c < 48 * r + 3 * n + w + k) → (mkW r b n fr k w S).2 a c = S.2 a c
  | 0, _, _, _, _, _ => rfl
  | k + 1, w, S, a, c, h => by rw [mkW, mkW_o r b n fr k (w + 1) _ a c (by omega), s2_o _ _ _ _ (by omega)]
theorem mkW_h {r b n : Nat} (hrb : b ≠ r) (hn : n < 16) (fr : Bool) : ∀ (k w : Nat) (S : SS) (v : Nat), w + k ≤ 3 → w ≤ v → v < w + k → (mkW r b n fr k w S).2 9 (48 * r + 3 * n + v) = if fr = true ∨ sameM S r b n v = false then b64 r else S.2 9 (48 * b + 3 * n + v)
  | 0, w, S, v, _, _, _ => by omega
  | k + 1, w, S, v, h1, h2, h3 => by
    rw [mkW]
    by_cases e : v = w
    · subst e
      rw [mkW_o _ _ _ _ _ _ _ _ _ (by omega), s2_h]
    · rw [mkW_h hrb hn fr k (w + 1) _ v (by omega) (by omega) (by omega), sameM_s2, s2_o _ _ _ _ (by omega)]
theorem mkI_1 (r b n : Nat) (S : SS) (a c : Nat) : (mkI r b n S).1 a c = if a = 3 ∧ c = n ∧ ti (S.1 4 r) n = true ∧ ti (S.1 4 b) n = false then nI r else S.1 a c := by
  unfold mkI
  by_cases h1 : ti (S.1 4 r) n = true
  · rw [if_pos h1]
    by_cases h2 : ti (S.1 4 b) n = true
    · rw [if_pos h2, mkW_1, if_neg (fun z => by rw [h2] at z; cases z.2.2.2), s1_at]
      split
      · rename_i z; rw [z.1, z.2]
      · rfl
    · rw [if_neg h2, mkW_1, s1_at]
      exact if_of2 ⟨fun z => ⟨z.1, z.2, h1, Bool.not_eq_true _ ▸ h2⟩, fun z => ⟨z.1, z.2.1⟩⟩ (fun _ => rfl) (fun _ => rfl)
  · rw [if_neg h1, if_neg (fun z => h1 z.2.2.1)]
theorem mkI_o (r b n : Nat) (S : SS) (a c : Nat) (h : ¬ (a = 9 ∧ 48 * r + 3 * n ≤ c ∧ c < 48 * r + 3 * n + 3)) : (mkI r b n S).2 a c = S.2 a c := by
  unfold mkI
  split
  · split
    · rw [mkW_o _ _ _ _ _ _ _ _ _ (by omega), s1_2]
    · rw [mkW_o _ _ _ _ _ _ _ _ _ (by omega), s1_2]
  · rfl
theorem mkI_h {r b n : Nat} (hrb : b ≠ r) (hn : n < 16) (S : SS) {v : Nat} (hv : v < 3) (ha : ti (S.1 4 r) n = true) : (mkI r b n S).2 9 (48 * r + 3 * n + v) = if ti (S.1 4 b) n = false ∨ sameM S r b n v = false then b64 r else S.2 9 (48 * b + 3 * n + v) := by
  unfold mkI
  rw [if_pos ha]
  by_cases h2 : ti (S.1 4 b) n = true
  · rw [if_pos h2, mkW_h hrb hn false 3 0 _ v (by omega) (by omega) (by omega), sameM_s1 _ (by omega), s1_2]
    exact if_of2 ⟨fun z => z.elim (fun z => by cases z) Or.inr, fun z => z.elim (fun z => by rw [h2] at z; cases z) Or.inr⟩ (fun _ => rfl) (fun _ => rfl)
  · rw [if_neg h2, mkW_h hrb hn true 3 0 _ v (by omega) (by omega) (by omega), if_pos (Or.inl rfl), if_pos (Or.inl (Bool.not_eq_true _ ▸ h2))]
theorem mkN_1 (r b : Nat) : ∀ (k n : Nat) (S : SS) (a c : Nat), (mkN r b k n S).1 a c = if a = 3 ∧ n ≤ c ∧ c < n + k ∧ ti (S.1 4 r) c = true ∧ ti (S.1 4 b) c = false then nI r else S.1 a c
  | 0, n, S, a, c => by rw [mkN, if_neg (by omega)]
  | k + 1, n, S, a, c => by
    have e : ∀ t, (mkI r b n S).1 4 t = S.1 4 t := fun t => by rw [mkI_1, if_neg (by omega)]
    rw [mkN, mkN_1 r b k (n + 1), e, e, mkI_1]
    by_cases q : a = 3 ∧ n + 1 ≤ c ∧ c < n + 1 + k ∧ ti (S.1 4 r) c = true ∧ ti (S.1 4 b) c = false
    · rw [if_pos q, if_pos ⟨q.1, by omega, by omega, q.2.2.2⟩]
    · rw [if_neg q]
      by_cases q2 : a = 3 ∧ c = n ∧ ti (S.1 4 r) n = true ∧ ti (S.1 4 b) n = false
      · obtain ⟨q3, rfl, q4⟩ := q2
        rw [if_pos ⟨q3, rfl, q4⟩, if_pos ⟨q3, by omega, by omega, q4⟩]
      · rw [if_neg q2, if_neg]
        rintro ⟨z1, z2, z3, z4⟩
        by_cases e : c = n
        · subst e; exact q2 ⟨z1, rfl, z4⟩
        · exact q ⟨z1, by omega, by omega, z4⟩
theorem mkN_o (r b : Nat) : ∀ (k n : Nat) (S : SS) (a c : Nat), ¬ (a = 9 ∧ 48 * r + 3 * n ≤ c ∧ c < 48 * r + 3 * (n + k)) → (mkN r b k n S).2 a c = S.2 a c
  | 0, _, _, _, _, _ => rfl
  | k + 1, n, S, a, c, h => by rw [mkN, mkN_o r b k (n + 1) _ a c (by omega), mkI_o _ _ _ _ _ _ (by omega)]
theorem mkN_h {r b : Nat} (hrb : b ≠ r) : ∀ (k n : Nat) (S : SS) (m v : Nat), n + k ≤ 16 → n ≤ m → m < n + k → v < 3 → ti (S.1 4 r) m = true → (mkN r b k n S).2 9 (48 * r + 3 * m + v) = if ti (S.1 4 b) m = false ∨ sameM S r b m v = false then b64 r else S.2 9 (48 * b + 3 * m + v)
  | 0, n, S, m, v, _, _, _, _, _ => by omega
  | k + 1, n, S, m, v, h1, h2, h3, hv, ha => by
    have e : ∀ t c, t ≠ 3 → (mkI r b n S).1 t c = S.1 t c := fun t c ht => by rw [mkI_1, if_neg (by omega)]
    rw [mkN]
    by_cases q : m = n
    · subst q
      rw [mkN_o _ _ _ _ _ _ _ (by omega), mkI_h hrb (by omega) S hv ha]
    · rw [mkN_h hrb k (n + 1) _ m v (by omega) (by omega) (by omega) hv (by rw [e _ _ (by omega)]; exact ha), e _ _ (by omega), mkI_o _ _ _ _ _ _ (by omega)]
      have : sameM (mkI r b n S) r b m v = sameM S r b m v := by
        unfold sameM
        rw [e _ _ (by omega), e _ _ (by omega), e _ _ (by omega), e _ _ (by omega), e _ _ (by omega), e _ _ (by omega), e _ _ (by omega), e _ _ (by omega)]
      rw [this]
