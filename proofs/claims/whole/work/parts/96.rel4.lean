/-- move -/
theorem e_move {C M : SS} {rc nc : Nat} (h : RR C M rc nc) {rk : Nat → Nat} {x : Int32} (y z w : Int32)
    (hrk : isP x = true → (∀ j, j < 16 → ti (C.1 (3 * (41 + cn x)) 0) j = true → rk j ≤ 15) ∧ ∀ j, 1 ≤ j → j < 16 → ti (C.1 (3 * (41 + cn x)) 0) j = true → ∃ x', x' < 16 ∧ M.1 5 (16 * (40 + cn x) + j) = nI x' ∧ ti (C.1 (3 * (41 + cn x)) 0) x' = true ∧ rk x' < rk j) :
    cdMove C x y z w = mcMove M rk x y z w := by
  unfold cdMove mcMove
  refine R_ws h (fun h1 => ?_)
  have ht := h.2.2.2 (cn x) (isP_cn h1).1
  rw [R_alive ht, R_alive ht]
  refine if_of (fun h2 => if_of (fun h3 => if_of2 Iff.rfl (fun _ => rfl) (fun h4 => ?_)) (fun _ => rfl)) (fun _ => rfl)
  rw [← R_alive ht] at h2 h3
  obtain ⟨b1, b2, b3⟩ := aliveB_cn h2
  obtain ⟨d1, d2, d3⟩ := aliveB_cn h3
  have b0 : 1 ≤ cn y := by
    rcases Nat.eq_zero_or_pos (cn y) with e | e
    · rw [e] at b2; exact absurd b2 h4
    · exact e
  have hd := R_dir h d1
  by_cases q1 : M.1 2 (cn z) = 0
  · rw [if_pos q1, if_neg (fun z => hd.mp z.1 q1)]
  · rw [if_neg q1]
    refine if_of2 ⟨fun z => z.2, fun z => ⟨hd.mpr q1, z⟩⟩ (fun q2 => ?_) (fun _ => rfl)
    have hk := inB_cn (by omega) q2.2
    have hf := R_free2 ht d1 hk.1 b0 b1 b3
    rw [← b2, ← d2, ← hk.2] at hf
    obtain ⟨r1, r2⟩ := hrk h1
    have hl := lead_wi ht r2 b0 b1 16 (rk (cn z)) (cn z) d1 d3 (by have := r1 (cn z) d1 d3; omega) (Nat.le_refl _)
    rw [← b2, ← d2] at hl
    by_cases q3 : 0 ≤ naG M (40 + cn x) z w y 15 (-1)
    · rw [if_pos q3, if_neg (fun z => i_nlt q3 (hf.mp z))]
    · rw [if_neg q3, if_pos (hf.mpr (i_nge q3)), hl]
theorem RT_rk {C M : SS} {nc t u : Nat} (h : RT C M nc t u) : ∃ rk : Nat → Nat, (∀ j, j < 16 → ti (C.1 (3 * t) 0) j = true → rk j ≤ 15) ∧ ∀ j, 1 ≤ j → j < 16 → ti (C.1 (3 * t) 0) j = true → ∃ x', x' < 16 ∧ M.1 5 (16 * u + j) = nI x' ∧ ti (C.1 (3 * t) 0) x' = true ∧ rk x' < rk j := TG_rk h.2
theorem p_move {C M : SS} {rc nc : Nat} (h : RR C M rc nc) {x y z w : Int32} (hc : cdMove C x y z w = 0) :
    RR (s1 C (3 * (41 + cn x) + 1) (cn y * 3 + 0) (nI (cn z * 10 + cn w))) (s1 (s1 M 5 (16 * (40 + cn x) + cn y) (nI (cn z))) 6 (16 * (40 + cn x) + cn y) (nI (cn w))) rc nc := by
  have h40 := h.1.1.2.2.2.2.2.2.1
  unfold cdMove at hc
  obtain ⟨h1, hc⟩ := cd_ws hc
  obtain ⟨h2, hc⟩ := ite_ne0 (by omega) hc
  obtain ⟨h3, hc⟩ := ite_ne0 (by omega) hc
  obtain ⟨h4, hc⟩ := ite_ne1 (by omega) hc
  obtain ⟨h5, hc⟩ := ite_ne0 (by omega) hc
  obtain ⟨h6, hc⟩ := ite_ne0 (by omega) hc
  obtain ⟨h7, hc⟩ := ite_ne1 (by omega) hc
  have hi := (isP_cn h1).1
  obtain ⟨b1, b2, b3⟩ := aliveB_cn h2
  obtain ⟨d1, d2, d3⟩ := aliveB_cn h3
  have hk := (inB_cn (by omega) h5.2).1
  have b0 : 1 ≤ cn y := by
    rcases Nat.eq_zero_or_pos (cn y) with e | e
    · rw [e] at b2; exact absurd b2 h4
    · exact e
  clear hc h2 h3 h4 h5
  generalize cn x = i at hi b3 d3 h6 h7 ⊢
  generalize cn y = m at b0 b1 b2 b3 ⊢
  generalize cn z = p at d1 d2 d3 h6 ⊢
  generalize cn w = k at hk h6 ⊢
  subst b2 d2
  have ht := h.2.2.2 i hi
  have e1 : ∀ a b, ¬ (a = 3 * (41 + i) + 1 ∧ b = m * 3) → (s1 C (3 * (41 + i) + 1) (m * 3 + 0) (nI (p * 10 + k))).1 a b = C.1 a b := fun a b ha => s1_o _ _ _ _ ha
  have f1 : ∀ a b, ¬ ((a = 5 ∨ a = 6) ∧ b = 16 * (40 + i) + m) → (s1 (s1 M 5 (16 * (40 + i) + m) (nI p)) 6 (16 * (40 + i) + m) (nI k)).1 a b = M.1 a b := fun a b ha => by rw [s1_o _ _ _ _ (by omega), s1_o _ _ _ _ (by omega)]
  refine RR_ws h (Nat.le_refl _) hi (RC_congr h.1 (fun b => e1 _ _ (by omega)) (fun _ _ => rfl) (fun n _ => e1 _ _ (by omega)) (fun b => e1 _ _ (by omega)) (fun b => f1 _ _ (by omega)) (fun _ _ => rfl) (fun n _ => f1 _ _ (by omega)) (fun a _ _ => f1 _ _ (by omega)))
    (fun a b ha h1 h2 => e1 _ _ (by omega)) (fun b => e1 _ _ (by omega)) rfl (fun a b ha => f1 _ _ (by omega)) rfl (fun u hu => f1 _ _ (by omega)) (fun u n a hu hn h5 h8 => f1 _ _ (by omega)) (fun n hn => f1 _ _ (by omega)) ?_
  obtain ⟨rk, r1, r2⟩ := RT_rk ht
  have v0 : (s1 C (3 * (41 + i) + 1) (m * 3 + 0) (nI (p * 10 + k))).1 (3 * (41 + i) + 1) (m * 3) = nI (p * 10 + k) := s1_h _ _ _ _
  have m5 : (s1 (s1 M 5 (16 * (40 + i) + m) (nI p)) 6 (16 * (40 + i) + m) (nI k)).1 5 (16 * (40 + i) + m) = nI p := by rw [s1_o _ _ _ _ (by omega), s1_h]
  have m6 : (s1 (s1 M 5 (16 * (40 + i) + m) (nI p)) 6 (16 * (40 + i) + m) (nI k)).1 6 (16 * (40 + i) + m) = nI k := s1_h _ _ _ _
  have eal : (s1 C (3 * (41 + i) + 1) (m * 3 + 0) (nI (p * 10 + k))).1 (3 * (41 + i)) 0 = C.1 (3 * (41 + i)) 0 := e1 _ _ (by omega)
  refine ⟨by rw [eal, f1 _ _ (by omega)]; exact ht.1, ?_⟩
  rw [eal]
  have hup : ∀ j, j ≠ m → (fun n => (s1 (s1 M 5 (16 * (40 + i) + m) (nI p)) 6 (16 * (40 + i) + m) (nI k)).1 5 (16 * (40 + i) + n)) j = M.1 5 (16 * (40 + i) + j) := fun j hj => f1 _ _ (by omega)
  obtain ⟨kz, hkz⟩ := lead_up ht r2 hup 16 p d1 d3 (by have := r1 p d1 d3; omega) (Bool.not_eq_true _ ▸ h7)
  have hfree : ∀ j, 1 ≤ j → j < 16 → j ≠ m → ti (C.1 (3 * (41 + i)) 0) j = true → C.1 (3 * (41 + i) + 1) (j * 3) ≠ nI (p * 10 + k) := by
    intro j q1 q2 q3 q4 q5
    rw [lowG_m1 _ 15 1 (by omega), lowG_eq _ 15 1 m (by omega) (by omega)] at h6
    rcases h6 with h6 | ⟨_, _, h6, _⟩
    · have := h6 j q1 (by omega)
      rw [q4, q5] at this; simp at this
    · rw [Bool.and_eq_true, beq_iff_eq] at h6
      exact q3 (ht.2.2.2.2.2.2.1 j m q1 q2 b0 b1 q4 h6.1 (by rw [q5, h6.2]))
  obtain ⟨t0, t1, t2, t3, t4, t5, t6, t7⟩ := ht
  have ups : ∀ (q n : Nat), n < 16 → ti (C.1 (3 * (41 + i)) 0) n = true → Up (fun n => M.1 5 (16 * (40 + i) + n)) q n → ∃ q', Up (fun n => (s1 (s1 M 5 (16 * (40 + i) + m) (nI p)) 6 (16 * (40 + i) + m) (nI k)).1 5 (16 * (40 + i) + n)) q' n := by
    intro q
    induction q with
    | zero => intro n hn ha hu; exact ⟨0, hu⟩
    | succ q ih =>
      intro n hn ha hu
      rcases Nat.eq_zero_or_pos n with e0 | e0
      · exact ⟨0, e0⟩
      · by_cases e : n = m
        · refine ⟨kz + 1, Or.inr ?_⟩
          show Up _ kz (cn ((s1 (s1 M 5 (16 * (40 + i) + m) (nI p)) 6 (16 * (40 + i) + m) (nI k)).1 5 (16 * (40 + i) + n)))
          rw [e, m5, cn_nI (by omega)]; exact hkz
        · rcases hu with hu | hu
          · omega
          · obtain ⟨x, y, hx, _, _, ex, _, hax⟩ := t5 n e0 hn ha
            have ex' : M.1 5 (16 * (40 + i) + n) = nI x := ex
            have hu' : Up (fun n => M.1 5 (16 * (40 + i) + n)) q (cn (M.1 5 (16 * (40 + i) + n))) := hu
            rw [ex', cn_nI (by omega)] at hu'
            obtain ⟨q', hq'⟩ := ih x hx hax hu'
            refine ⟨q' + 1, Or.inr ?_⟩
            rw [hup n e, ex', cn_nI (by omega)]; exact hq'
  refine ⟨t1, t2, ⟨?_, ?_, ?_⟩, fun n hn ha => ?_, fun n h1 hn ha => ?_, fun n j q1 q2 q3 q4 q5 q6 q7 => ?_, fun n hn ha => ?_⟩
  · rw [e1 _ _ (by omega)]; exact t3.1
  · show (s1 (s1 M 5 (16 * (40 + i) + m) (nI p)) 6 (16 * (40 + i) + m) (nI k)).1 5 (16 * (40 + i) + 0) = -1
    rw [f1 _ _ (by omega)]; exact t3.2.1
  · show (s1 (s1 M 5 (16 * (40 + i) + m) (nI p)) 6 (16 * (40 + i) + m) (nI k)).1 6 (16 * (40 + i) + 0) = -1
    rw [f1 _ _ (by omega)]; exact t3.2.2
  · show _ = (s1 (s1 M 5 (16 * (40 + i) + m) (nI p)) 6 (16 * (40 + i) + m) (nI k)).1 7 (16 * (40 + i) + n) ∧ _ = (s1 (s1 M 5 (16 * (40 + i) + m) (nI p)) 6 (16 * (40 + i) + m) (nI k)).1 8 (16 * (40 + i) + n)
    rw [e1 _ _ (by omega), e1 _ _ (by omega), f1 _ _ (by omega), f1 _ _ (by omega)]; exact t4 n hn ha
  · show ∃ x y, x < 16 ∧ y < 10 ∧ _ ∧ (s1 (s1 M 5 (16 * (40 + i) + m) (nI p)) 6 (16 * (40 + i) + m) (nI k)).1 5 (16 * (40 + i) + n) = nI x ∧ (s1 (s1 M 5 (16 * (40 + i) + m) (nI p)) 6 (16 * (40 + i) + m) (nI k)).1 6 (16 * (40 + i) + n) = nI y ∧ _
    by_cases e : n = m
    · rw [e, v0, m5, m6]; exact ⟨p, k, d1, hk, rfl, rfl, rfl, d3⟩
    · rw [e1 _ _ (by omega), f1 _ _ (by omega), f1 _ _ (by omega)]; exact t5 n h1 hn ha
  · by_cases en : n = m
    · by_cases ej : j = m
      · rw [en, ej]
      · rw [en, v0, e1 _ _ (by omega)] at q7
        exact absurd q7.symm (hfree j q3 q4 ej q6)
    · by_cases ej : j = m
      · rw [ej, v0, e1 _ _ (by omega)] at q7
        exact absurd q7 (hfree n q1 q2 en q5)
      · rw [e1 _ _ (by omega), e1 _ _ (by omega)] at q7
        exact t6 n j q1 q2 q3 q4 q5 q6 q7
  · obtain ⟨q, hq⟩ := t7 n hn ha
    exact ups q n hn ha hq
/-- write -/
theorem e_write {C M : SS} {rc nc : Nat} (h : RR C M rc nc) (x y z : Int32) : cdWrite C x y z = mcWrite M x y z := by
  unfold cdWrite mcWrite
  refine R_ws h (fun h1 => ?_)
  have ht := h.2.2.2 (cn x) (isP_cn h1).1
  rw [R_alive ht]
  refine if_of (fun h2 => ?_) (fun _ => rfl)
  rw [← R_alive ht] at h2
  obtain ⟨b1, b2, b3⟩ := aliveB_cn h2
  have hd := R_dir h b1
  by_cases q1 : z = nI 1
  · rw [if_pos (Or.inl q1), if_pos q1, if_pos q1]
    refine if_of2 Iff.rfl (fun _ => rfl) (fun _ => ?_)
    by_cases q2 : M.1 2 (cn y) = 0
    · rw [if_pos q2, if_neg (fun z => hd.mp z q2)]
    · rw [if_neg q2, if_pos (hd.mpr q2)]
  · rw [if_neg q1, if_neg q1]
    by_cases q2 : z = nI 2
    · rw [if_pos (Or.inr q2), if_pos q2]
      refine if_of2 Iff.rfl (fun _ => rfl) (fun _ => ?_)
      split <;> rfl
    · rw [if_neg (show ¬ (z = nI 1 ∨ z = nI 2) from fun q => q.elim q1 q2), if_neg q2]
      split <;> rfl
theorem p_write {C M : SS} {rc nc : Nat} (h : RR C M rc nc) {x y z v : Int32} (hc : cdWrite C x y z = 0) : RR (s1 C (3 * (41 + cn x) + 1) (cn y * 3 + cn z) v) (mdWrite M (cn x) (cn y) z v) rc nc := by
  have h40 := h.1.1.2.2.2.2.2.2.1
  unfold cdWrite at hc
  obtain ⟨h1, hc⟩ := cd_ws hc
  obtain ⟨h2, hc⟩ := ite_ne0 (by omega) hc
  obtain ⟨h3, hc⟩ := ite_ne1 (by omega) hc
  have hi := (isP_cn h1).1
  obtain ⟨b1, b2, b3⟩ := aliveB_cn h2
  have hz : ∃ k, k < 2 ∧ z = nI (k + 1) := by
    by_cases q1 : z = nI 1
    · exact ⟨0, by omega, q1⟩
    · rw [if_neg q1] at hc
      exact ⟨1, by omega, (ite_ne0 (by omega) hc).1⟩
  obtain ⟨k, hk, rfl⟩ := hz
  clear hc h2 h3
  have em : mdWrite M (cn x) (cn y) (nI (k + 1)) v = s1 M (7 + k) (16 * (40 + cn x) + cn y) v := by
    unfold mdWrite
    rcases (show k = 0 ∨ k = 1 by omega) with rfl | rfl
    · rw [if_pos rfl]
    · rw [if_neg (by decide)]
  rw [em, cn_nI (by omega)]
  generalize cn x = i at hi b3 ⊢
  generalize cn y = m at b1 b3 ⊢
  have ht := h.2.2.2 i hi
  have e1 : ∀ a b, ¬ (a = 3 * (41 + i) + 1 ∧ b = m * 3 + (k + 1)) → (s1 C (3 * (41 + i) + 1) (m * 3 + (k + 1)) v).1 a b = C.1 a b := fun a b ha => s1_o _ _ _ _ ha
  have f1 : ∀ a b, ¬ (a = 7 + k ∧ b = 16 * (40 + i) + m) → (s1 M (7 + k) (16 * (40 + i) + m) v).1 a b = M.1 a b := fun a b ha => s1_o _ _ _ _ ha
  refine RR_ws h (Nat.le_refl _) hi (RC_congr h.1 (fun b => e1 _ _ (by omega)) (fun _ _ => rfl) (fun n _ => e1 _ _ (by omega)) (fun b => e1 _ _ (by omega)) (fun b => f1 _ _ (by omega)) (fun _ _ => rfl) (fun n _ => f1 _ _ (by omega)) (fun a _ _ => f1 _ _ (by omega)))
    (fun a b ha h1 h2 => e1 _ _ (by omega)) (fun b => e1 _ _ (by omega)) rfl (fun a b ha => f1 _ _ (by omega)) rfl (fun u hu => f1 _ _ (by omega)) (fun u n a hu hn h5 h8 => f1 _ _ (by omega)) (fun n hn => f1 _ _ (by omega)) ?_
  have eal : (s1 C (3 * (41 + i) + 1) (m * 3 + (k + 1)) v).1 (3 * (41 + i)) 0 = C.1 (3 * (41 + i)) 0 := e1 _ _ (by omega)
  refine ⟨by rw [eal, f1 _ _ (by omega)]; exact ht.1, ?_⟩
  rw [eal]
  obtain ⟨t0, t1, t2, t3, t4, t5, t6, t7⟩ := ht
  have ef : ∀ a, a ≤ 6 → (fun n => (s1 M (7 + k) (16 * (40 + i) + m) v).1 a (16 * (40 + i) + n)) = (fun n => M.1 a (16 * (40 + i) + n)) := fun a ha => by funext n; exact f1 _ _ (by omega)
  rw [ef 5 (by omega), ef 6 (by omega)]
  refine ⟨t1, t2, ⟨?_, t3.2⟩, fun n hn ha => ?_, fun n h1 hn ha => ?_, fun n j q1 q2 q3 q4 q5 q6 q7 => ?_, t7⟩
  · rw [e1 _ _ (by omega)]; exact t3.1
  · show _ = (s1 M (7 + k) (16 * (40 + i) + m) v).1 7 (16 * (40 + i) + n) ∧ _ = (s1 M (7 + k) (16 * (40 + i) + m) v).1 8 (16 * (40 + i) + n)
    obtain ⟨a1, a2⟩ := t4 n hn ha
    constructor
    · rw [s1_at, s1_at]
      by_cases e : k = 0 ∧ n = m
      · rw [if_pos (by omega), if_pos (by omega)]
      · rw [if_neg (by omega), if_neg (by omega)]; exact a1
    · rw [s1_at, s1_at]
      by_cases e : k = 1 ∧ n = m
      · rw [if_pos (by omega), if_pos (by omega)]
      · rw [if_neg (by omega), if_neg (by omega)]; exact a2
  · rw [e1 _ _ (by omega)]; exact t5 n h1 hn ha
  · rw [e1 _ _ (by omega), e1 _ _ (by omega)] at q7
    exact t6 n j q1 q2 q3 q4 q5 q6 q7
