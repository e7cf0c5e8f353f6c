/-! THE BEGINNING -/
theorem fiF_at (x : Int32) : ∀ (n j : Nat) (f : Nat → Int32) (c : Nat), fiF x n j f c = if j ≤ c ∧ c < j + n then x else f c
  | 0, j, f, c => by rw [fiF, if_neg (by omega)]
  | n + 1, j, f, c => by
    rw [fiF, fiF_at x n (j + 1)]
    unfold upd
    repeat' split
    all_goals first | rfl | (exfalso; omega)
theorem mi1_1 : ∀ (n p : Nat) (S : SS) (a c : Nat), (mi1 n p S).1 a c = if a = 11 ∧ p ≤ c ∧ c < p + n then -1 else if a = 15 ∧ p ≤ c ∧ c < p + n then nI 15 else S.1 a c
  | 0, p, S, a, c => by rw [mi1, if_neg (by omega), if_neg (by omega)]
  | n + 1, p, S, a, c => by
    rw [mi1, mi1_1 n (p + 1), s1_at, s1_at, s2_1]
    repeat' split
    all_goals first | rfl | (exfalso; omega)
theorem mi1_2 : ∀ (n p : Nat) (S : SS) (a c : Nat), (mi1 n p S).2 a c = if a = 10 ∧ p ≤ c ∧ c < p + n then 1 else S.2 a c
  | 0, p, S, a, c => by rw [mi1, if_neg (by omega)]
  | n + 1, p, S, a, c => by
    rw [mi1, mi1_2 n (p + 1), s1_2, s1_2, s2_at]
    repeat' split
    all_goals first | rfl | (exfalso; omega)
theorem mi2_1 : ∀ (n k : Nat) (S : SS) (a c : Nat), (mi2 n k S).1 a c = if a = 4 ∧ k ≤ c ∧ c < k + n then nI 1 else if (a = 5 ∨ a = 6) ∧ c % 16 = 0 ∧ 16 * k ≤ c ∧ c < 16 * (k + n) then -1 else S.1 a c
  | 0, k, S, a, c => by rw [mi2, if_neg (by omega), if_neg (by omega)]
  | n + 1, k, S, a, c => by
    rw [mi2, mi2_1 n (k + 1), s1_at, s1_at, s1_at]
    repeat' split
    all_goals first | rfl | (exfalso; omega)
theorem mi2_2 : ∀ (n k : Nat) (S : SS), (mi2 n k S).2 = S.2
  | 0, _, _ => rfl
  | n + 1, k, S => by rw [mi2, mi2_2 n]; rfl
theorem mi3_1 : ∀ (n k : Nat) (S : SS) (a c : Nat), (mi3 n k S).1 a c = if a = 12 ∧ k ≤ c ∧ c < k + n then -1 else S.1 a c
  | 0, k, S, a, c => by rw [mi3, if_neg (by omega)]
  | n + 1, k, S, a, c => by
    rw [mi3, mi3_1 n (k + 1), s1_at]
    repeat' split
    all_goals first | rfl | (exfalso; omega)
theorem mi3_2 : ∀ (n k : Nat) (S : SS), (mi3 n k S).2 = S.2
  | 0, _, _ => rfl
  | n + 1, k, S => by rw [mi3, mi3_2 n]; rfl
def M00 : SS := mi4 (mi3 96 0 (mi2 43 0 (mi1 2 0 mS0)))
theorem M00_1 (a c : Nat) : M00.1 a c = if a = 2 ∧ c = 0 then nI 1 else if a = 12 ∧ c < 96 then -1 else if a = 4 ∧ c < 43 then nI 1 else if (a = 5 ∨ a = 6) ∧ c % 16 = 0 ∧ c < 688 then -1 else if a = 11 ∧ c < 2 then -1 else if a = 15 ∧ c < 2 then nI 15 else if a = 0 ∧ (c = 1 ∨ c = 3) then nI 1 else 0 := by
  unfold M00 mi4
  rw [show vp_nar .boolean (nI 1) = nI 1 from bI_vn true, s1_at, mi3_1, mi2_1, mi1_1]
  have e : mS0.1 a c = if a = 0 ∧ (c = 1 ∨ c = 3) then nI 1 else 0 := by
    unfold mS0
    by_cases h : a = 0
    · subst h
      by_cases hc : c = 1 ∨ c = 3
      · simp [hc]
      · simp [hc]
    · simp [h]
  rw [e]
  repeat' split
  all_goals first | rfl | (exfalso; omega)
theorem M00_2 (a c : Nat) : M00.2 a c = if a = 10 ∧ c < 2 then 1 else 0 := by
  unfold M00 mi4
  rw [s1_2, mi3_2, mi2_2, mi1_2]
  have e : mS0.2 a c = 0 := rfl
  rw [e]
  repeat' split
  all_goals first | rfl | (exfalso; omega)
theorem C00_t {t : Nat} (h : t < 43) (c : Nat) : cS0.1 (3 * t) c = nI 1 ∧ cS0.1 (3 * t + 1) c = (if c = 0 then -1 else 0) ∧ cS0.2 (3 * t + 2) c = 0 := by
  obtain ⟨h1, h2, h3⟩ := cS0_t h
  rw [h1, h2, h3]
  refine ⟨rfl, ?_, rfl⟩
  unfold iV upd
  rfl
theorem C00_p {i : Nat} (h : i < 2) (c : Nat) : cS0.1 (129 + 5 * i) c = (if c = 2 then nI 15 else if c = 4 then -1 else 0) ∧ cS0.2 (129 + 5 * i) c = (if c = 0 then 1 else 0) ∧ cS0.2 (130 + 5 * i) c = 0 ∧ (c < 48 → cS0.1 (131 + 5 * i) c = -1) := by
  rcases (show i = 0 ∨ i = 1 by omega) with rfl | rfl
  · refine ⟨rfl, rfl, rfl, fun hc => ?_⟩
    show fiF (-1) 48 0 (fun _ => 0) c = -1
    rw [fiF_at, if_pos (by omega)]
  · refine ⟨rfl, rfl, rfl, fun hc => ?_⟩
    show fiF (-1) 48 0 (fun _ => 0) c = -1
    rw [fiF_at, if_pos (by omega)]
theorem RT_00 {t u : Nat} (ht : t < 43) (hu : u < 43) : RT cS0 M00 1 t u := by
  have a1 : cS0.1 (3 * t) 0 = nI 1 := (C00_t ht 0).1
  have m1 : M00.1 4 u = nI 1 := by rw [M00_1, if_neg (by omega), if_neg (by omega), if_pos ⟨rfl, hu⟩]
  have al : ∀ n, n < 16 → ti (nI 1) n = true → n = 0 := fun n hn hq => by rw [ti_nI1 (by omega)] at hq; exact of_decide_eq_true hq
  refine ⟨by rw [a1, m1], ?_⟩
  rw [a1]
  refine ⟨by rw [ti_nI1 (by omega)]; rfl, fun n hn hq => by rw [al n hn hq]; omega, ⟨?_, ?_, ?_⟩, fun n hn hq => ?_, fun n h1 hn hq => ?_, fun n m h1 hn _ _ hq => ?_, fun n hn hq => ⟨0, al n hn hq⟩⟩
  · rw [(C00_t ht _).2.1]; rfl
  · show M00.1 5 (16 * u + 0) = -1
    rw [M00_1, if_neg (by omega), if_neg (by omega), if_neg (by omega), if_pos (by omega)]
  · show M00.1 6 (16 * u + 0) = -1
    rw [M00_1, if_neg (by omega), if_neg (by omega), if_neg (by omega), if_pos (by omega)]
  · have := al n hn hq
    subst this
    show _ = M00.1 7 (16 * u + 0) ∧ _ = M00.1 8 (16 * u + 0)
    rw [(C00_t ht _).2.1, (C00_t ht _).2.1, M00_1, M00_1, if_neg (by omega), if_neg (by omega), if_neg (by omega), if_neg (by omega), if_neg (by omega), if_neg (by omega), if_neg (by omega), if_neg (by omega), if_neg (by omega), if_neg (by omega), if_neg (by omega), if_neg (by omega), if_neg (by omega), if_neg (by omega), if_neg (by omega), if_neg (by omega)]
    exact ⟨rfl, rfl⟩
  · exact absurd (al n hn hq) (by omega)
  · exact absurd (al n hn hq) (by omega)
theorem RR_00 : RR cS0 M00 1 1 := by
  have z : ∀ a c, a ≠ 2 → a ≠ 12 → a ≠ 4 → a ≠ 5 → a ≠ 6 → a ≠ 11 → a ≠ 15 → a ≠ 0 → M00.1 a c = 0 := fun a c _ _ _ _ _ _ _ _ => by
    rw [M00_1]
    repeat' split
    all_goals first | rfl | (exfalso; omega)
  have c139 : ∀ c, cS0.1 139 c = if c = 4 ∨ c = 6 ∨ c = 7 then nI 1 else 0 := fun c => rfl
  have c142 : ∀ c, cS0.1 142 c = 0 := fun c => rfl
  have c141 : ∀ c, cS0.2 141 c = 0 := fun c => rfl
  have m0 : ∀ c, M00.1 0 c = if c = 1 ∨ c = 3 then nI 1 else 0 := fun c => by
    rw [M00_1]
    repeat' split
    all_goals first | rfl | (exfalso; omega)
  have m2 : ∀ c, M00.1 2 c = if c = 0 then nI 1 else 0 := fun c => by
    rw [M00_1]
    repeat' split
    all_goals first | rfl | (exfalso; omega)
  refine ⟨⟨⟨?_, ?_, ?_, ?_, ?_, by omega, by omega, by omega, by omega⟩, fun r hr => ?_, fun r _ _ => ?_, fun n hn => ?_, fun n h1 hn => ?_, fun n hn => ⟨0, by omega, ?_⟩, ?_⟩, fun i hi => ?_, fun r hr => ⟨RT_00 (by omega) (by omega), fun n w h1 hn hw hq => ?_, fun n hn hq => ?_⟩, fun i hi => RT_00 (by omega) (by omega)⟩
  · rw [m0]; rfl
  · rw [c139]; rfl
  · rw [m0]; rfl
  · rw [c139]; rfl
  · rw [m0]; rfl
  · rw [c141, M00_2, if_neg (by omega)]
  · rw [M00_2, if_neg (by omega)]
  · rw [c139, m2, if_pos (Or.inr (Or.inl rfl)), ti_nI1 (by omega)]
    by_cases e : n = 0
    · subst e; rfl
    · rw [if_neg e, decide_eq_false e]; rfl
  · rw [m2, if_neg (by omega)]
  · rw [c142]; rfl
  · have t := fun c => (C00_t (show 40 < 43 by omega) c).2.1
    have t' : ∀ c, cS0.1 121 c = if c = 0 then -1 else 0 := t
    rw [t', t', t', z 7 _ (by omega) (by omega) (by omega) (by omega) (by omega) (by omega) (by omega) (by omega), z 8 _ (by omega) (by omega) (by omega) (by omega) (by omega) (by omega) (by omega) (by omega)]
    refine ⟨rfl, ?_, ?_, rfl, rfl⟩
    · rw [M00_1, if_neg (by omega), if_neg (by omega), if_neg (by omega), if_pos (by omega)]
    · rw [M00_1, if_neg (by omega), if_neg (by omega), if_neg (by omega), if_pos (by omega)]
  · have p := C00_p hi
    refine ⟨?_, ?_, ?_, ⟨?_, Or.inl ?_⟩, fun k hk => ?_, fun j hj => ?_, 0, by omega, ?_, ?_, fun j hj => by omega⟩
    · rw [(p 0).2.1, M00_2, if_pos rfl, if_pos ⟨rfl, hi⟩]
    · rw [(p 2).1, M00_1, if_pos rfl, if_neg (by omega), if_neg (by omega), if_neg (by omega), if_neg (by omega), if_neg (by omega), if_pos ⟨rfl, hi⟩]
    · rw [(p 6).1, z 13 _ (by omega) (by omega) (by omega) (by omega) (by omega) (by omega) (by omega) (by omega)]; rfl
    · rw [(p 4).1, M00_1, if_neg (by omega), if_pos rfl, if_neg (by omega), if_neg (by omega), if_neg (by omega), if_neg (by omega), if_pos ⟨rfl, hi⟩]
    · rw [M00_1, if_neg (by omega), if_neg (by omega), if_neg (by omega), if_neg (by omega), if_pos ⟨rfl, hi⟩]
    · rw [(p k).2.2.1, M00_2, if_neg (by omega)]
    · have : M00.1 12 (48 * i + j) = -1 := by rw [M00_1, if_neg (by omega), if_pos (by omega)]
      rw [this]
      exact ⟨(p j).2.2.2 hj, Or.inl rfl⟩
    · rw [(p 9).1]; rfl
    · rw [z 16 _ (by omega) (by omega) (by omega) (by omega) (by omega) (by omega) (by omega) (by omega)]; rfl
  · have := (C00_t (show r < 43 by omega) 0).1
    rw [this, ti_nI1 (by omega)] at hq
    exact absurd (of_decide_eq_true hq) (by omega)
  · rw [c142, z 3 _ (by omega) (by omega) (by omega) (by omega) (by omega) (by omega) (by omega) (by omega)]
