/-- a new revision -/
theorem RR_rev {C M C' M' : SS} {rc nc : Nat} (h : RR C M rc nc) (hr : rc < 40) (hRC : RC C' M' (rc + 1) nc) (hP : ∀ j, j < 2 → RP C' M' (rc + 1) j) (hT : RT C' M' nc rc rc) (hM : RMk C' M' rc) (hB : RBi C' M' rc)
    (e1 : ∀ a b, a < 129 → a ≠ 3 * rc → a ≠ 3 * rc + 1 → ¬ (120 ≤ a ∧ a ≤ 122) → C'.1 a b = C.1 a b) (e2 : ∀ a b, a < 129 → a ≠ 3 * rc + 2 → a ≠ 122 → C'.2 a b = C.2 a b)
    (f1 : ∀ u, u < 42 → u ≠ rc → M'.1 4 u = M.1 4 u) (f2 : ∀ u n k, u < 42 → u ≠ rc → n < 16 → 5 ≤ k → k ≤ 8 → M'.1 k (16 * u + n) = M.1 k (16 * u + n)) (f3 : ∀ u b, u < 42 → u ≠ rc → b < 48 → M'.2 9 (48 * u + b) = M.2 9 (48 * u + b))
    (hb : ∀ n, n < 16 → (C'.1 142 n = C.1 142 n ∧ M'.1 3 n = M.1 3 n) ∨ C'.1 142 n = M'.1 3 n) : RR C' M' (rc + 1) nc := by
  refine ⟨hRC, hP, fun r hr' => ?_, fun j hj => ?_⟩
  · by_cases e : r = rc
    · subst e; exact ⟨hT, hM, hB⟩
    · have hlt : r < rc := by omega
      obtain ⟨t1, t2, t3⟩ := h.2.2.1 r hlt
      have ea : C'.1 (3 * r) 0 = C.1 (3 * r) 0 := e1 _ _ (by omega) (by omega) (by omega) (by omega)
      refine ⟨RT_congr (Nat.le_refl _) t1 ea (f1 r (by omega) (by omega)) (fun n w _ _ => e1 _ _ (by omega) (by omega) (by omega) (by omega)) (fun n k hn h5 h8 => f2 r n k (by omega) (by omega) hn h5 h8), RMk_congr t2 ea (fun b _ => e2 _ _ (by omega) (by omega) (by omega)) (fun b q1 q2 => ?_), fun n hn ha => ?_⟩
      · have := f3 r (b - 48 * r) (by omega) (by omega) (by omega)
        rwa [show 48 * r + (b - 48 * r) = b by omega] at this
      · rw [ea] at ha
        rcases hb n hn with ⟨q1, q2⟩ | q
        · rw [q1, q2]; exact t3 n hn ha
        · exact q
  · exact RT_congr (Nat.le_refl _) (h.2.2.2 j hj) (e1 _ _ (by omega) (by omega) (by omega) (by omega)) (f1 _ (by omega) (by omega)) (fun n w _ _ => e1 _ _ (by omega) (by omega) (by omega) (by omega)) (fun n k hn h5 h8 => f2 (40 + j) n k (by omega) (by omega) hn h5 h8)
theorem mrS_1 (S : SS) (rc i t : Nat) (x : Int64) (a b : Nat) (hr : rc < 40) (ht : t < 43) : (mrS S rc i t x).1 a b = if a = 3 * rc ∧ b = 0 then S.1 (3 * t) 0 else if a = 3 * rc + 1 ∧ b < 48 then S.1 (3 * t + 1) b else if a = 139 ∧ b = 4 then nI (rc + 1) else S.1 a b := by
  unfold mrS
  rw [s2_1, cfS_1a, s2_1, s1_at, s1_at, s1_at, if_neg (show ¬ (3 * t = 139 ∧ 0 = 4) by omega), if_neg (show ¬ (3 * t + 1 = 139 ∧ b = 4) by omega)]
theorem mrS_2 (S : SS) (rc i t : Nat) (x : Int64) (a b : Nat) (hr : rc < 40) (ht : t < 43) (hi : i < 2) : (mrS S rc i t x).2 a b = if a = 129 + 5 * i ∧ b = 0 then S.2 (129 + 5 * i) 0 ||| b64 rc else if a = 3 * rc + 2 ∧ b < 48 then S.2 (3 * t + 2) b else if a = 141 ∧ b = rc then x else S.2 a b := by
  unfold mrS
  rw [s2_at, cfS_2a, cfS_2a, s2_at, s2_at, s2_at, s1_2]
  rw [if_neg (show ¬ (129 + 5 * i = 3 * rc + 2 ∧ 0 < 48) by omega), if_neg (show ¬ (129 + 5 * i = 141 ∧ 0 = rc) by omega), if_neg (show ¬ (3 * t + 2 = 141 ∧ b = rc) by omega), s2_at, s1_2]
theorem mk0_1 (S : SS) (rc i b : Nat) (a c : Nat) (hr : rc < 40) (hi : i < 2) : (mk0 S rc i b).1 a c = if a = 4 ∧ c = rc then S.1 4 (40 + i) else if (5 ≤ a ∧ a ≤ 8) ∧ 16 * rc ≤ c ∧ c < 16 * rc + 16 then S.1 a (16 * (40 + i) + (c - 16 * rc)) else if a = 0 ∧ c = 1 then nI (rc + 1) else S.1 a c := by
  unfold mk0
  rw [mct_1 _ (by omega), s2_1, s1_at, s1_at, s1_at, if_neg (show ¬ (4 = 0 ∧ 40 + i = 1) by omega)]
  by_cases q : (5 ≤ a ∧ a ≤ 8) ∧ 16 * rc ≤ c ∧ c < 16 * rc + 16
  · rw [if_pos q, if_pos q, if_neg (show ¬ (a = 0 ∧ 16 * (40 + i) + (c - 16 * rc) = 1) by omega)]
  · rw [if_neg q, if_neg q]
theorem mk0_2 (S : SS) (rc i b : Nat) (a c : Nat) (hr : rc < 40) (hi : i < 2) (hb : b < rc) : (mk0 S rc i b).2 a c = if a = 9 ∧ 48 * rc ≤ c ∧ c < 48 * rc + 48 then S.2 9 (48 * (40 + i) + (c - 48 * rc)) else if a = 1 ∧ c = rc then S.2 1 b ||| b64 b else S.2 a c := by
  unfold mk0
  rw [mct_2 _ (by omega), s2_at, s2_at, s1_2, if_neg (show ¬ (9 = 1 ∧ 48 * (40 + i) + (c - 48 * rc) = rc) by omega)]
theorem p_commit {C M : SS} {rc nc : Nat} (h : RR C M rc nc) {x : Int32} (hc : cdCommit C rc x = 0) : RR (doCommit C rc nc (cn x) (cn (C.1 (129 + 5 * cn x) 4))) (mdCommit M rc (cn x) (cn (M.1 11 (cn x)))) (rc + 1) nc := by
  have h16 := h.1.1.2.2.2.2.2.2.2.2
  unfold cdCommit at hc
  obtain ⟨h1, hc⟩ := ite_ne0 (by omega) hc
  obtain ⟨h2, hc⟩ := ite_ne1 (by omega) hc
  obtain ⟨h3, hc⟩ := ite_ne1 (by omega) hc
  obtain ⟨hr, hc⟩ := ite_ne0 (by omega) hc
  have hi := (isP_cn h1).1
  obtain ⟨b, hb, eb1, eb2⟩ := R_baseI h hi h2
  rw [eb1, eb2, cn_nI (by omega)]
  clear hc h2 h3 eb1 eb2
  generalize cn x = i at hi ⊢
  have hw := h.2.2.2 i hi
  have hbt := h.2.2.1 b hb
  have old0 : C.2 141 b = M.2 1 b := h.1.2.1 b (by omega)
  unfold doCommit mdCommit
  generalize eC1 : mrS C rc i (41 + i) (C.2 141 b ||| b64 b) = C1
  generalize eM1 : mk0 M rc i b = M1
  have c1 : ∀ a c, C1.1 a c = if a = 3 * rc ∧ c = 0 then C.1 (3 * (41 + i)) 0 else if a = 3 * rc + 1 ∧ c < 48 then C.1 (3 * (41 + i) + 1) c else if a = 139 ∧ c = 4 then nI (rc + 1) else C.1 a c := fun a c => by rw [← eC1]; exact mrS_1 _ _ _ _ _ _ _ hr (by omega)
  have c2 : ∀ a c, C1.2 a c = if a = 129 + 5 * i ∧ c = 0 then C.2 (129 + 5 * i) 0 ||| b64 rc else if a = 3 * rc + 2 ∧ c < 48 then C.2 (3 * (41 + i) + 2) c else if a = 141 ∧ c = rc then C.2 141 b ||| b64 b else C.2 a c := fun a c => by rw [← eC1]; exact mrS_2 _ _ _ _ _ _ _ hr (by omega) hi
  have m1 : ∀ a c, M1.1 a c = if a = 4 ∧ c = rc then M.1 4 (40 + i) else if (5 ≤ a ∧ a ≤ 8) ∧ 16 * rc ≤ c ∧ c < 16 * rc + 16 then M.1 a (16 * (40 + i) + (c - 16 * rc)) else if a = 0 ∧ c = 1 then nI (rc + 1) else M.1 a c := fun a c => by rw [← eM1]; exact mk0_1 _ _ _ _ _ _ hr hi
  have m2 : ∀ a c, M1.2 a c = if a = 9 ∧ 48 * rc ≤ c ∧ c < 48 * rc + 48 then M.2 9 (48 * (40 + i) + (c - 48 * rc)) else if a = 1 ∧ c = rc then M.2 1 b ||| b64 b else M.2 a c := fun a c => by rw [← eM1]; exact mk0_2 _ _ _ _ _ _ hr hi hb
  clear eC1 eM1
  have al1 : C1.1 (3 * rc) 0 = C.1 (3 * (41 + i)) 0 := by rw [c1, if_pos ⟨rfl, rfl⟩]
  have al2 : M1.1 4 rc = M.1 4 (40 + i) := by rw [m1, if_pos ⟨rfl, rfl⟩]
  have c1o : ∀ a c, a ≠ 3 * rc → a ≠ 3 * rc + 1 → ¬ (a = 139 ∧ c = 4) → C1.1 a c = C.1 a c := fun a c q1 q2 q3 => by rw [c1, if_neg (fun z => q1 z.1), if_neg (fun z => q2 z.1), if_neg q3]
  have m1o : ∀ a c, ¬ (a = 4 ∧ c = rc) → ¬ ((5 ≤ a ∧ a ≤ 8) ∧ 16 * rc ≤ c ∧ c < 16 * rc + 16) → ¬ (a = 0 ∧ c = 1) → M1.1 a c = M.1 a c := fun a c q1 q2 q3 => by rw [m1, if_neg q1, if_neg q2, if_neg q3]
  generalize eC2 : mcN rc b (nc - 1) 1 C1 = C2
  generalize eM2 : mkN rc b 15 1 M1 = M2
  have C21 : ∀ a c, C2.1 a c = if a = 142 ∧ 1 ≤ c ∧ c < 1 + (nc - 1) ∧ ti (C.1 (3 * (41 + i)) 0) c = true ∧ ti (C.1 (3 * b) 0) c = false then nI rc else C1.1 a c := fun a c => by
    rw [← eC2, mcN_1 hr (by omega), al1, c1o (3 * b) 0 (by omega) (by omega) (by omega)]
  have M21 : ∀ a c, M2.1 a c = if a = 3 ∧ 1 ≤ c ∧ c < 1 + 15 ∧ ti (M.1 4 (40 + i)) c = true ∧ ti (M.1 4 b) c = false then nI rc else M1.1 a c := fun a c => by
    rw [← eM2, mkN_1, al2, m1o 4 b (by omega) (by omega) (by omega)]
  have C22o : ∀ a c, a ≠ 3 * rc + 2 → C2.2 a c = C1.2 a c := fun a c q => by rw [← eC2, mcN_2 hr (by omega) (by omega), if_neg (fun z => q z.1)]
  have M22o : ∀ a c, ¬ (a = 9 ∧ 48 * rc ≤ c ∧ c < 48 * rc + 48) → M2.2 a c = M1.2 a c := fun a c q => by rw [← eM2, mkN_o _ _ _ _ _ _ _ (by omega)]
  have Cmk : ∀ n w, 1 ≤ n → n < nc → w < 3 → ti (C.1 (3 * (41 + i)) 0) n = true → C2.2 (3 * rc + 2) (n * 3 + w) = if ti (C.1 (3 * b) 0) n = false ∨ C.1 (3 * (41 + i) + 1) (n * 3 + w) ≠ C.1 (3 * b + 1) (n * 3 + w) then b64 rc else C.2 (3 * b + 2) (n * 3 + w) := fun n w q1 q2 q3 q4 => by
    have e3 : (n * 3 + w) / 3 = n := by omega
    rw [← eC2, mcN_2 hr (by omega) (by omega), al1, e3, if_pos (show 3 * rc + 2 = 3 * rc + 2 ∧ 1 * 3 ≤ n * 3 + w ∧ n * 3 + w < (1 + (nc - 1)) * 3 ∧ ti (C.1 (3 * (41 + i)) 0) n = true from ⟨rfl, by omega, by omega, q4⟩), c1o (3 * b) 0 (by omega) (by omega) (by omega), c1o (3 * b + 1) _ (by omega) (by omega) (by omega)]
    rw [show C1.1 (3 * rc + 1) (n * 3 + w) = C.1 (3 * (41 + i) + 1) (n * 3 + w) from by rw [c1, if_neg (show ¬ (3 * rc + 1 = 3 * rc ∧ n * 3 + w = 0) by omega), if_pos (show 3 * rc + 1 = 3 * rc + 1 ∧ n * 3 + w < 48 by omega)]]
    rw [show C1.2 (3 * b + 2) (n * 3 + w) = C.2 (3 * b + 2) (n * 3 + w) from by rw [c2, if_neg (show ¬ (3 * b + 2 = 129 + 5 * i ∧ n * 3 + w = 0) by omega), if_neg (show ¬ (3 * b + 2 = 3 * rc + 2 ∧ n * 3 + w < 48) by omega), if_neg (show ¬ (3 * b + 2 = 141 ∧ n * 3 + w = rc) by omega)]]
  have Mmk : ∀ n w, 1 ≤ n → n < 16 → w < 3 → ti (M.1 4 (40 + i)) n = true → M2.2 9 (48 * rc + 3 * n + w) = if ti (M.1 4 b) n = false ∨ sameM M (40 + i) b n w = false then b64 rc else M.2 9 (48 * b + 3 * n + w) := fun n w q1 q2 q3 q4 => by
    have es : sameM M1 rc b n w = sameM M (40 + i) b n w := by
      have z : ∀ k, 5 ≤ k → k ≤ 8 → M1.1 k (16 * rc + n) = M.1 k (16 * (40 + i) + n) := fun k k1 k2 => by
        rw [m1, if_neg (show ¬ (k = 4 ∧ 16 * rc + n = rc) by omega), if_pos (show (5 ≤ k ∧ k ≤ 8) ∧ 16 * rc ≤ 16 * rc + n ∧ 16 * rc + n < 16 * rc + 16 by omega)]
        exact congrArg _ (by omega)
      unfold sameM
      rw [z 5 (by omega) (by omega), z 6 (by omega) (by omega), z 7 (by omega) (by omega), z 8 (by omega) (by omega), m1o 5 _ (by omega) (by omega) (by omega), m1o 6 _ (by omega) (by omega) (by omega), m1o 7 _ (by omega) (by omega) (by omega), m1o 8 _ (by omega) (by omega) (by omega)]
    rw [← eM2, mkN_h (by omega) 15 1 M1 n w (by omega) q1 (by omega) q3 (by rw [al2]; exact q4), m1o 4 b (by omega) (by omega) (by omega), es]
    rw [show M1.2 9 (48 * b + 3 * n + w) = M.2 9 (48 * b + 3 * n + w) from by rw [m2, if_neg (show ¬ (9 = 9 ∧ 48 * rc ≤ 48 * b + 3 * n + w ∧ 48 * b + 3 * n + w < 48 * rc + 48) by omega), if_neg (show ¬ (9 = 1 ∧ 48 * b + 3 * n + w = rc) by omega)]]
  clear eC2 eM2
  have C2o : ∀ a c, a ≠ 3 * rc → a ≠ 3 * rc + 1 → ¬ (a = 139 ∧ c = 4) → a ≠ 142 → C2.1 a c = C.1 a c := fun a c q1 q2 q3 q4 => by rw [C21, if_neg (fun z => q4 z.1), c1o _ _ q1 q2 q3]
  have M2o : ∀ a c, ¬ (a = 4 ∧ c = rc) → ¬ ((5 ≤ a ∧ a ≤ 8) ∧ 16 * rc ≤ c ∧ c < 16 * rc + 16) → ¬ (a = 0 ∧ c = 1) → a ≠ 3 → M2.1 a c = M.1 a c := fun a c q1 q2 q3 q4 => by rw [M21, if_neg (fun z => q4 z.1), m1o _ _ q1 q2 q3]
  unfold mkF
  have C3 : ∀ a c, ¬ (a = 129 + 5 * i ∧ c = 4) → (s1 C2 (129 + 5 * i) 4 (nI rc)).1 a c = C2.1 a c := fun a c q => s1_o _ _ _ _ q
  have M3 : ∀ a c, ¬ (a = 11 ∧ c = i) → (s1 (s2 M2 10 i (M2.2 10 i ||| b64 rc)) 11 i (nI rc)).1 a c = M2.1 a c := fun a c q => by rw [s1_o _ _ _ _ q, s2_1]
  have M3' : ∀ a c, ¬ (a = 10 ∧ c = i) → (s1 (s2 M2 10 i (M2.2 10 i ||| b64 rc)) 11 i (nI rc)).2 a c = M2.2 a c := fun a c q => by rw [s1_2, s2_o _ _ _ _ q]
  have hnb : ∀ n, n < 16 → (ti (C.1 (3 * (41 + i)) 0) n = true) → n < nc := fun n hn ha => hw.2.2.1 n hn ha
  have hbirth : ∀ n, n < 16 → (C2.1 142 n = C.1 142 n ∧ M2.1 3 n = M.1 3 n) ∨ (C2.1 142 n = nI rc ∧ M2.1 3 n = nI rc) := fun n hn => by
    rw [C21, M21, c1o _ _ (by omega) (by omega) (by omega), m1o _ _ (by omega) (by omega) (by omega), ← hw.1, ← hbt.1.1]
    by_cases q : 1 ≤ n ∧ ti (C.1 (3 * (41 + i)) 0) n = true ∧ ti (C.1 (3 * b) 0) n = false
    · refine Or.inr ⟨if_pos ⟨rfl, q.1, by have := hnb n hn q.2.1; omega, q.2⟩, if_pos ⟨rfl, q.1, by omega, q.2⟩⟩
    · exact Or.inl ⟨if_neg (fun z => q ⟨z.2.1, z.2.2.2⟩), if_neg (fun z => q ⟨z.2.1, z.2.2.2⟩)⟩
  refine RR_rev h hr ?_ (fun j hj => ?_) ?_ (fun n w q1 q2 q3 q4 => ?_) (fun n hn ha => ?_) (fun a c q1 q2 q3 q4 => ?_) (fun a c q1 q2 q3 => ?_) (fun u q1 q2 => ?_) (fun u n k q1 q2 q3 q4 q5 => ?_) (fun u c q1 q2 q3 => ?_) (fun n hn => ?_)
  · obtain ⟨⟨a1, a2, a3, a4, a5, a6, a7, a8, a9⟩, g1, g2, g3, g4, g5, g6⟩ := h.1
    have old2 : ∀ r, C2.2 141 r = if r = rc then C.2 141 b ||| b64 b else C.2 141 r := fun r => by
      rw [C22o _ _ (by omega), c2, if_neg (show ¬ (141 = 129 + 5 * i ∧ r = 0) by omega), if_neg (show ¬ (141 = 3 * rc + 2 ∧ r < 48) by omega)]
      exact if_of2 ⟨fun z => z.2, fun z => ⟨rfl, z⟩⟩ (fun _ => rfl) (fun _ => rfl)
    have anc2 : ∀ r, M2.2 1 r = if r = rc then M.2 1 b ||| b64 b else M.2 1 r := fun r => by
      rw [M22o _ _ (by omega), m2, if_neg (show ¬ (1 = 9 ∧ 48 * rc ≤ r ∧ r < 48 * rc + 48) by omega)]
      exact if_of2 ⟨fun z => z.2, fun z => ⟨rfl, z⟩⟩ (fun _ => rfl) (fun _ => rfl)
    refine ⟨⟨?_, ?_, ?_, ?_, ?_, by omega, by omega, a8, a9⟩, fun r hr' => ?_, fun r q1 q2 => ?_, fun n hn => ?_, fun n q1 q2 => ?_, fun n hn => ?_, ?_⟩
    · rw [M3 _ _ (by omega), M2o _ _ (by omega) (by omega) (by omega) (by omega)]; exact a1
    · rw [C3 _ _ (by omega), C21, if_neg (by omega), c1, if_neg (by omega), if_neg (by omega), if_pos ⟨rfl, rfl⟩]
    · rw [M3 _ _ (by omega), M21, if_neg (by omega), m1, if_neg (by omega), if_neg (by omega), if_pos ⟨rfl, rfl⟩]
    · rw [C3 _ _ (by omega), C2o _ _ (by omega) (by omega) (by omega) (by omega)]; exact a4
    · rw [M3 _ _ (by omega), M2o _ _ (by omega) (by omega) (by omega) (by omega)]; exact a5
    · rw [s1_2, M3' _ _ (by omega), old2, anc2, old0]
      split
      · rfl
      · exact g1 r hr'
    · rw [M3' _ _ (by omega), anc2, if_neg (by omega)]; exact g2 r (by omega) q2
    · rw [C3 _ _ (by omega), M3 _ _ (by omega), C2o _ _ (by omega) (by omega) (by omega) (by omega), M2o _ _ (by omega) (by omega) (by omega) (by omega)]; exact g3 n hn
    · rw [M3 _ _ (by omega), M2o _ _ (by omega) (by omega) (by omega) (by omega)]; exact g4 n q1 q2
    · rw [C3 _ _ (by omega)]
      rcases hbirth n hn with q | q
      · rw [q.1]; exact g5 n hn
      · exact ⟨rc, hr, q.1⟩
    · rw [C3 _ _ (by omega), C3 _ _ (by omega), C3 _ _ (by omega), M3 _ _ (by omega), M3 _ _ (by omega), M3 _ _ (by omega), M3 _ _ (by omega), C2o _ _ (by omega) (by omega) (by omega) (by omega), C2o _ _ (by omega) (by omega) (by omega) (by omega), C2o _ _ (by omega) (by omega) (by omega) (by omega), M2o _ _ (by omega) (by omega) (by omega) (by omega), M2o _ _ (by omega) (by omega) (by omega) (by omega), M2o _ _ (by omega) (by omega) (by omega) (by omega), M2o _ _ (by omega) (by omega) (by omega) (by omega)]
      exact g6
  · obtain ⟨p1, p2, p3, p4, p5, p6, c, pc, p7, p8, p9⟩ := h.2.1 j hj
    have cc : ∀ a c, 129 ≤ a → a < 139 → ¬ (a = 129 + 5 * i ∧ c = 4) → (s1 C2 (129 + 5 * i) 4 (nI rc)).1 a c = C.1 a c := fun a c q1 q2 q3 => by rw [C3 _ _ q3, C2o _ _ (by omega) (by omega) (by omega) (by omega)]
    have mm : ∀ a c, 10 ≤ a → ¬ (a = 11 ∧ c = i) → (s1 (s2 M2 10 i (M2.2 10 i ||| b64 rc)) 11 i (nI rc)).1 a c = M.1 a c := fun a c q1 q2 => by rw [M3 _ _ q2, M2o _ _ (by omega) (by omega) (by omega) (by omega)]
    refine ⟨?_, ?_, ?_, ?_, fun k hk => ?_, fun q hq => ?_, c, pc, ?_, ?_, fun q hq => ?_⟩
    · rw [s1_2, s1_2, s2_at, C22o _ _ (by omega), c2, M22o _ _ (by omega), M22o _ _ (by omega), m2, m2]
      by_cases e : j = i
      · subst e
        rw [if_pos ⟨rfl, rfl⟩, if_pos ⟨rfl, rfl⟩, if_neg (show ¬ (10 = 9 ∧ 48 * rc ≤ j ∧ j < 48 * rc + 48) by omega), if_neg (show ¬ (10 = 1 ∧ j = rc) by omega), p1]
      · rw [if_neg (show ¬ (129 + 5 * j = 129 + 5 * i ∧ 0 = 0) by omega), if_neg (show ¬ (129 + 5 * j = 3 * rc + 2 ∧ 0 < 48) by omega), if_neg (show ¬ (129 + 5 * j = 141 ∧ 0 = rc) by omega), if_neg (show ¬ (10 = 10 ∧ j = i) by omega), if_neg (show ¬ (10 = 9 ∧ 48 * rc ≤ j ∧ j < 48 * rc + 48) by omega), if_neg (show ¬ (10 = 1 ∧ j = rc) by omega)]
        exact p1
    · rw [cc _ _ (by omega) (by omega) (by omega), mm _ _ (by omega) (by omega)]; exact p2
    · rw [cc _ _ (by omega) (by omega) (by omega), mm _ _ (by omega) (by omega)]; exact p3
    · by_cases e : j = i
      · subst e; rw [s1_h, s1_h]; exact ⟨rfl, Or.inr ⟨rc, by omega, rfl⟩⟩
      · rw [cc _ _ (by omega) (by omega) (by omega), mm _ _ (by omega) (by omega)]
        exact ⟨p4.1, p4.2.imp id (fun ⟨b, hb, eb⟩ => ⟨b, by omega, eb⟩)⟩
    · rw [s1_2, M3' _ _ (by omega), C22o _ _ (by omega), c2, M22o _ _ (by omega), m2, if_neg (show ¬ (130 + 5 * j = 129 + 5 * i ∧ k = 0) by omega), if_neg (show ¬ (130 + 5 * j = 3 * rc + 2 ∧ k < 48) by omega), if_neg (show ¬ (130 + 5 * j = 141 ∧ k = rc) by omega), if_neg (show ¬ (14 = 9 ∧ 48 * rc ≤ 12 * j + k ∧ 12 * j + k < 48 * rc + 48) by omega), if_neg (show ¬ (14 = 1 ∧ 12 * j + k = rc) by omega)]
      exact p5 k hk
    · rw [cc _ _ (by omega) (by omega) (by omega), mm _ _ (by omega) (by omega)]; exact p6 q hq
    · rw [cc _ _ (by omega) (by omega) (by omega)]; exact p7
    · rw [mm _ _ (by omega) (by omega)]; exact p8
    · rw [cc _ _ (by omega) (by omega) (by omega), cc _ _ (by omega) (by omega) (by omega), mm _ _ (by omega) (by omega), mm _ _ (by omega) (by omega)]; exact p9 q hq
  · refine RT_congr (Nat.le_refl _) hw ?_ ?_ (fun n w q1 q2 => ?_) (fun n k q1 q2 q3 => ?_)
    · rw [C3 _ _ (by omega), C21, if_neg (by omega), al1]
    · rw [M3 _ _ (by omega), M21, if_neg (by omega), al2]
    · rw [C3 _ _ (by omega), C21, if_neg (by omega), c1, if_neg (show ¬ (3 * rc + 1 = 3 * rc ∧ n * 3 + w = 0) by omega), if_pos (show 3 * rc + 1 = 3 * rc + 1 ∧ n * 3 + w < 48 by omega)]
    · rw [M3 _ _ (by omega), M21, if_neg (by omega), m1, if_neg (show ¬ (k = 4 ∧ 16 * rc + n = rc) by omega), if_pos (show (5 ≤ k ∧ k ≤ 8) ∧ 16 * rc ≤ 16 * rc + n ∧ 16 * rc + n < 16 * rc + 16 by omega)]
      exact congrArg _ (by omega)
  · rw [C3 _ _ (by omega), C21, if_neg (by omega), al1] at q4
    rw [s1_2, M3' _ _ (by omega), Cmk n w q1 (hnb n q2 q4) q3 q4, Mmk n w q1 q2 q3 (by rw [← hw.1]; exact q4), ← hbt.1.1]
    cases hab : ti (C.1 (3 * b) 0) n with
    | false => rw [if_pos (Or.inl rfl), if_pos (Or.inl rfl)]
    | true =>
      refine if_of2 ?_ (fun _ => rfl) (fun _ => hbt.2.1 n w q1 q2 q3 hab)
      have := R_same hw hbt.1 q1 q2 q3 q4 hab
      constructor
      · rintro (z | z)
        · cases z
        · right
          cases hs : sameM M (40 + i) b n w with
          | false => rfl
          | true => exact absurd (this.mpr hs) z
      · rintro (z | z)
        · cases z
        · right
          intro q
          rw [this.mp q] at z; cases z
  · rw [C3 _ _ (by omega), C21, if_neg (by omega), al1] at ha
    rw [C3 _ _ (by omega), M3 _ _ (by omega)]
    rw [C21, M21, c1o _ _ (by omega) (by omega) (by omega), m1o _ _ (by omega) (by omega) (by omega), ← hw.1, ← hbt.1.1]
    rcases Nat.eq_zero_or_pos n with e | e
    · subst e
      rw [if_neg (by omega), if_neg (by omega)]
      exact hbt.2.2 0 (by omega) hbt.1.2.1
    · cases hab : ti (C.1 (3 * b) 0) n with
      | false => rw [if_pos ⟨rfl, e, by have := hnb n hn ha; omega, ha, rfl⟩, if_pos ⟨rfl, e, by omega, ha, rfl⟩]
      | true =>
        rw [if_neg (fun z => by cases z.2.2.2.2), if_neg (fun z => by cases z.2.2.2.2)]
        exact hbt.2.2 n hn hab
  · rw [C3 _ _ (by omega), C2o _ _ q2 q3 (by omega) (by omega)]
  · rw [s1_2, C22o _ _ q2, c2, if_neg (by omega), if_neg (by omega), if_neg (by omega)]
  · rw [M3 _ _ (by omega), M2o _ _ (by omega) (by omega) (by omega) (by omega)]
  · rw [M3 _ _ (by omega), M2o _ _ (by omega) (by omega) (by omega) (by omega)]
  · rw [M3' _ _ (by omega), M22o _ _ (by omega), m2, if_neg (by omega), if_neg (by omega)]
  · rw [C3 _ _ (by omega), M3 _ _ (by omega)]
    rcases hbirth n hn with q | q
    · exact Or.inl q
    · exact Or.inr (by rw [q.1, q.2])
