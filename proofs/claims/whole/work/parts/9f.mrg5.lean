theorem x_merge {C M : SS} {rc nc : Nat} (h : RR C M rc nc) {bi : Nat → Nat} (hbi : ∀ n, n < 16 → bi n < 40) {i a b : Nat} (hi : i < 2) (ha : a < rc) (hb : b < rc) (hr : rc < 40) :
    (doMerge C bi rc nc i a b).1 = (mdMerge M bi rc i a b).1 ∧ ∃ rc', RR (doMerge C bi rc nc i a b).2 (mdMerge M bi rc i a b).2 rc' nc := by
  have h1n := h.1.1.2.2.2.2.2.2.2.1
  have h16 := h.1.1.2.2.2.2.2.2.2.2
  obtain ⟨hMI, hal, hno⟩ := MI_all h hbi hi ha hb
  unfold doMerge mdMerge meQ mmQ
  generalize mtS C bi rc nc i a b = S at hMI hal ⊢
  generalize mmN i a b rc 15 1 (s1 M 4 42 (maG M bi i a b 15 1 (nI 1))) = T at hMI ⊢
  obtain ⟨f1, f2, f3, f4, f5, f6, f7⟩ := hMI
  obtain ⟨_, g1, g2, g3, g4, g5, ⟨g6a, g6b, g6c, g6d, g6e⟩⟩ := h.1
  have bit : ∀ m, m < 16 → ti (S.1 120 0) m = (decide (m = 0) || (decide (1 ≤ m ∧ m < 1 + 15) && maC M i a b m (bi m))) := fun m hm => by rw [hal, maG_bits M bi i a b 15 1 _ m (by omega) hm, ti_nI1 (by omega)]
  have inn : ∀ m, 1 ≤ m → m < 16 → ti (S.1 120 0) m = true → maC M i a b m (bi m) = true := fun m q1 q2 q3 => by
    rw [bit m q2, decide_eq_false (show ¬ m = 0 by omega), decide_eq_true (show 1 ≤ m ∧ m < 1 + 15 by omega)] at q3
    simpa using q3
  have hG : GM S T := by
    refine ⟨by rw [hal, f6], by rw [bit 0 (by omega)]; simp, by rw [f4 0 (by omega)]; exact g6a, fun m q1 q2 q3 => ?_⟩
    obtain ⟨u, f, mk, n1, n2, n3⟩ := f7 m q1 q2 (inn m q1 q2 q3)
    refine ⟨fun w hw => by rw [(n2 w hw).1, (n3.1 w hw).1], fun z => (n2 0 (by omega)).2.2 (by rw [← (n3.1 0 (by omega)).1]; exact z) rfl, fun z => ?_⟩
    have hu : u 0 = false := by rw [← (n3.1 0 (by omega)).1]; exact z
    obtain ⟨n4, n5⟩ := n1 0 (by omega)
    have hf : f 0 < rc := by rcases n4 with e | e <;> rw [e] <;> assumption
    obtain ⟨x, y, hx, hy, e1, e2, e3, _⟩ := (h.2.2.1 (f 0) hf).1.2.2.2.2.2.1 m q1 q2 n5
    refine ⟨x, y, hx, hy, ?_, ?_, ?_⟩
    · have := ((n2 0 (by omega)).2.1 hu).1
      rw [Nat.add_zero] at this
      rw [this]; exact e1
    · rw [n3.2 5 (by omega) (by omega) hu]; exact e2
    · rw [n3.2 6 (by omega) (by omega) hu]; exact e3
  have hL0 : LI S T i 0 (s1 S (129 + 5 * i) 9 (nI 0), 0) (s1 T 16 i (nI 0), 0) :=
    ⟨rfl, Nat.le_refl _, fun x c q1 q2 q3 => s1_o _ _ _ _ q3, rfl, fun x c q1 q2 => s1_o _ _ _ _ q1, rfl, s1_h _ _ _ _, s1_h _ _ _ _, fun j hj => absurd hj (Nat.not_lt_zero j)⟩
  obtain ⟨hL, hz⟩ := LI_G hG hi (nc - 1) 1 0 _ _ (by omega) (by omega) (by omega) hL0
  have e15 : mlcG i 15 1 (s1 T 16 i (nI 0), 0) = mlcG i (nc - 1) 1 (s1 T 16 i (nI 0), 0) := by
    rw [show (15 : Nat) = (nc - 1) + (16 - nc) by omega, mlcG_add]
    refine mlcG_no i _ _ _ (fun m q1 q2 => ?_)
    rw [hL.2.2.2.2.1 4 42 (by omega) (by omega), f6, ← hal, bit m (by omega), decide_eq_false (show ¬ m = 0 by omega), hno m (by omega) (by omega)]; simp
  rw [e15]
  generalize lcG i (nc - 1) 1 (s1 S (129 + 5 * i) 9 (nI 0), 0) = q at hL hz ⊢
  generalize mlcG i (nc - 1) 1 (s1 T 16 i (nI 0), 0) = p at hL ⊢
  obtain ⟨l1, l2', l3, l4, l5, l6, l7, l8, l9⟩ := hL
  have qC : ∀ x c, x ≠ 120 → x ≠ 121 → x ≠ 132 + 5 * i → x ≠ 133 + 5 * i → ¬ (x = 129 + 5 * i ∧ c = 9) → q.1.1 x c = C.1 x c := fun x c q1 q2 q3 q4 q5 => by rw [l3 x c q3 q4 q5, f1.1 x c q1 q2]
  have qC2 : ∀ x c, x ≠ 122 → x ≠ 139 → q.1.2 x c = C.2 x c := fun x c q1 q2 => by rw [l4, f1.2 x c q1 q2]
  have pM : ∀ x c, ¬ (x = 4 ∧ c = 42) → ¬ ((5 ≤ x ∧ x ≤ 8) ∧ 672 ≤ c) → x ≠ 19 → ¬ (x = 16 ∧ c = i) → ¬ ((x = 17 ∨ x = 18) ∧ 64 * i ≤ c ∧ c < 64 * i + 64) → p.1.1 x c = M.1 x c := fun x c q1 q2 q3 q4 q5 => by rw [l5 x c q4 q5, f2.1 x c q1 q2 q3]
  have pM2 : ∀ x c, ¬ (x = 9 ∧ 2016 ≤ c) → p.1.2 x c = M.2 x c := fun x c q1 => by rw [l6, f2.2 x c q1]
  have h40 := hr
  have hRR : RR q.1 p.1 rc nc := by
    refine ⟨?_, fun j hj => ?_, fun r hr' => ⟨?_, ?_, ?_⟩, fun j hj => ?_⟩
    · obtain ⟨⟨a1, a2, a3, a4, a5, a6⟩, _⟩ := h.1
      refine ⟨⟨by rw [pM _ _ (by omega) (by omega) (by omega) (by omega) (by omega)]; exact a1, by rw [qC _ _ (by omega) (by omega) (by omega) (by omega) (by omega)]; exact a2, by rw [pM _ _ (by omega) (by omega) (by omega) (by omega) (by omega)]; exact a3, by rw [qC _ _ (by omega) (by omega) (by omega) (by omega) (by omega)]; exact a4, by rw [pM _ _ (by omega) (by omega) (by omega) (by omega) (by omega)]; exact a5, a6⟩, fun r hr' => ?_, fun r q1 q2 => ?_, fun n hn => ?_, fun n q1 q2 => ?_, fun n hn => ?_, ?_⟩
      · rw [qC2 _ _ (by omega) (by omega), pM2 _ _ (by omega)]; exact g1 r hr'
      · rw [pM2 _ _ (by omega)]; exact g2 r q1 q2
      · rw [qC _ _ (by omega) (by omega) (by omega) (by omega) (by omega), pM _ _ (by omega) (by omega) (by omega) (by omega) (by omega)]; exact g3 n hn
      · rw [pM _ _ (by omega) (by omega) (by omega) (by omega) (by omega)]; exact g4 n q1 q2
      · rw [qC _ _ (by omega) (by omega) (by omega) (by omega) (by omega)]; exact g5 n hn
      · rw [l3 _ _ (by omega) (by omega) (by omega), l3 _ _ (by omega) (by omega) (by omega), l3 _ _ (by omega) (by omega) (by omega), l5 _ _ (by omega) (by omega), l5 _ _ (by omega) (by omega), l5 _ _ (by omega) (by omega), l5 _ _ (by omega) (by omega), f4 0 (by omega), f4 1 (by omega), f4 2 (by omega), f5 5 (by omega) (by omega), f5 6 (by omega) (by omega), f5 7 (by omega) (by omega), f5 8 (by omega) (by omega)]
        exact ⟨g6a, g6b, g6c, g6d, g6e⟩
    · obtain ⟨p1, p2, p3, p4, p5, p6, c, pc, p7, p8, p9⟩ := h.2.1 j hj
      refine ⟨by rw [qC2 _ _ (by omega) (by omega), pM2 _ _ (by omega)]; exact p1, by rw [qC _ _ (by omega) (by omega) (by omega) (by omega) (by omega), pM _ _ (by omega) (by omega) (by omega) (by omega) (by omega)]; exact p2, by rw [qC _ _ (by omega) (by omega) (by omega) (by omega) (by omega), pM _ _ (by omega) (by omega) (by omega) (by omega) (by omega)]; exact p3, by rw [qC _ _ (by omega) (by omega) (by omega) (by omega) (by omega), pM _ _ (by omega) (by omega) (by omega) (by omega) (by omega)]; exact p4, fun k hk => ?_, fun k hk => ?_, ?_⟩
      · rw [qC2 _ _ (by omega) (by omega), pM2 _ _ (by omega)]; exact p5 k hk
      · rw [qC _ _ (by omega) (by omega) (by omega) (by omega) (by omega), pM _ _ (by omega) (by omega) (by omega) (by omega) (by omega)]; exact p6 k hk
      · by_cases e : j = i
        · subst e
          exact ⟨q.2, by omega, l7, l8, l9⟩
        · refine ⟨c, pc, ?_, ?_, fun k hk => ?_⟩
          · rw [qC _ _ (by omega) (by omega) (by omega) (by omega) (by omega)]; exact p7
          · rw [pM _ _ (by omega) (by omega) (by omega) (by omega) (by omega)]; exact p8
          · rw [qC _ _ (by omega) (by omega) (by omega) (by omega) (by omega), qC _ _ (by omega) (by omega) (by omega) (by omega) (by omega), pM _ _ (by omega) (by omega) (by omega) (by omega) (by omega), pM _ _ (by omega) (by omega) (by omega) (by omega) (by omega)]; exact p9 k hk
    · exact RT_congr (Nat.le_refl _) (h.2.2.1 r hr').1 (qC _ _ (by omega) (by omega) (by omega) (by omega) (by omega)) (pM _ _ (by omega) (by omega) (by omega) (by omega) (by omega)) (fun n w _ _ => qC _ _ (by omega) (by omega) (by omega) (by omega) (by omega)) (fun n k _ _ _ => pM _ _ (by omega) (by omega) (by omega) (by omega) (by omega))
    · exact RMk_congr (h.2.2.1 r hr').2.1 (qC _ _ (by omega) (by omega) (by omega) (by omega) (by omega)) (fun c _ => qC2 _ _ (by omega) (by omega)) (fun c _ _ => pM2 _ _ (by omega))
    · exact RBi_congr (h.2.2.1 r hr').2.2 (qC _ _ (by omega) (by omega) (by omega) (by omega) (by omega)) (fun n _ => qC _ _ (by omega) (by omega) (by omega) (by omega) (by omega)) (fun n _ => pM _ _ (by omega) (by omega) (by omega) (by omega) (by omega))
    · exact RT_congr (Nat.le_refl _) (h.2.2.2 j hj) (qC _ _ (by omega) (by omega) (by omega) (by omega) (by omega)) (pM _ _ (by omega) (by omega) (by omega) (by omega) (by omega)) (fun n w _ _ => qC _ _ (by omega) (by omega) (by omega) (by omega) (by omega)) (fun n k _ _ _ => pM _ _ (by omega) (by omega) (by omega) (by omega) (by omega))
  rw [← l1]
  by_cases hc : 0 < q.2
  · rw [if_pos hc, if_pos hc]
    exact ⟨rfl, rc, hRR⟩
  · rw [if_neg hc, if_neg hc]
    refine ⟨rfl, rc + 1, ?_⟩
    obtain ⟨_, hz⟩ := hz (by omega)
    have q120 : q.1.1 120 0 = S.1 120 0 := l3 _ _ (by omega) (by omega) (by omega)
    have q121 : ∀ c, q.1.1 121 c = S.1 121 c := fun c => l3 _ _ (by omega) (by omega) (by omega)
    have pT : ∀ x c, 5 ≤ x → x ≤ 8 → p.1.1 x c = T.1 x c := fun x c _ _ => l5 _ _ (by omega) (by omega)
    have hlt : ∀ m, m < 16 → ti (S.1 120 0) m = true → m < nc := fun m q1 q2 => by
      rcases Nat.eq_zero_or_pos m with e | e
      · omega
      · apply Classical.byContradiction
        intro hge
        have := inn m e q1 q2
        rw [hno m (by omega) q1] at this; cases this
    have hz' : ∀ m, 1 ≤ m → m < 16 → ti (S.1 120 0) m = true → (∀ w, w < 3 → ti (T.1 19 m) w = false) ∧ pcK S m = 0 := fun m q1 q2 q3 => hz m q1 (by have := hlt m q2 q3; omega) q3
    have src : ∀ m w, 1 ≤ m → m < 16 → w < 3 → ti (S.1 120 0) m = true → S.2 122 (m * 3 + w) = T.2 9 (2016 + (3 * m + w)) ∧ ∃ r, r < rc ∧ ti (C.1 (3 * r) 0) m = true ∧ S.1 121 (m * 3 + w) = C.1 (3 * r + 1) (m * 3 + w) ∧ ∀ x, 5 ≤ x → x ≤ 8 → x - 6 = w → T.1 x (672 + m) = M.1 x (16 * r + m) := fun m w q1 q2 q3 q4 => by
      obtain ⟨u, f, mk, n1, n2, n3⟩ := f7 m q1 q2 (inn m q1 q2 q4)
      have hu : u w = false := by rw [← (n3.1 w q3).1]; exact (hz' m q1 q2 q4).1 w q3
      obtain ⟨n4, n5⟩ := n1 w q3
      have hf : f w < rc := by rcases n4 with e | e <;> rw [e] <;> assumption
      obtain ⟨k1, k2⟩ := (n2 w q3).2.1 hu
      refine ⟨by rw [k2, (n3.1 w q3).2 hu], f w, hf, n5, k1, fun x x1 x2 x3 => ?_⟩
      have := n3.2 x x1 x2 (by rw [x3]; exact hu)
      rwa [x3] at this
    refine x_rev hRR hr hi ha hb ?_ (fun n w q1 q2 q3 q4 => ?_) (fun n hn hq => ?_)
    · refine GM_tree (LI_GM hi ⟨l1, l2', l3, l4, l5, l6, l7, l8, l9⟩ hG) (fun m q1 q2 q3 => ?_) (fun m q1 q2 => ?_) ?_ (fun m q1 q2 => ?_)
      · rw [q120] at q3
        rw [l5 19 m (by omega) (by omega), pcK_fr (fun c => l3 120 c (by omega) (by omega) (by omega)) q121]
        exact ⟨(hz' m q1 q2 q3).1 0 (by omega), (hz' m q1 q2 q3).2⟩
      · rw [q120] at q2; exact hlt m q1 q2
      · rw [pT 5 _ (by omega) (by omega), pT 6 _ (by omega) (by omega), f5 5 (by omega) (by omega), f5 6 (by omega) (by omega)]
        exact ⟨g6b, g6c⟩
      · rw [q120] at q2
        rw [q121, q121, pT 7 _ (by omega) (by omega), pT 8 _ (by omega) (by omega)]
        rcases Nat.eq_zero_or_pos m with e | e
        · subst e
          rw [Nat.add_zero, f5 7 (by omega) (by omega), f5 8 (by omega) (by omega), Nat.zero_mul, Nat.zero_add, f4 1 (by omega), f4 2 (by omega)]
          exact ⟨g6d, g6e⟩
        · obtain ⟨_, r, hr1, hr2, hr3, hr4⟩ := src m 1 e q1 (by omega) q2
          obtain ⟨_, r', hr1', hr2', hr3', hr4'⟩ := src m 2 e q1 (by omega) q2
          rw [hr3, hr3', hr4 7 (by omega) (by omega) rfl, hr4' 8 (by omega) (by omega) rfl]
          exact ⟨((h.2.2.1 r hr1).1.2.2.2.2.1 m q1 hr2).1, ((h.2.2.1 r' hr1').1.2.2.2.2.1 m q1 hr2').2⟩
    · rw [q120] at q4
      rw [l4, l6]
      exact (src n w q1 q2 q3 q4).1
    · rw [q120] at hq
      rw [qC _ _ (by omega) (by omega) (by omega) (by omega) (by omega), pM _ _ (by omega) (by omega) (by omega) (by omega) (by omega)]
      rcases Nat.eq_zero_or_pos n with e | e
      · subst e
        exact (h.2.2.1 a ha).2.2 0 (by omega) (h.2.2.1 a ha).1.2.1
      · obtain ⟨_, r, hr1, hr2, _⟩ := src n 0 e hn (by omega) hq
        exact (h.2.2.1 r hr1).2.2 n hn hr2
