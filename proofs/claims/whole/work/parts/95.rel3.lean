theorem p_add {C M : SS} {rc nc : Nat} (h : RR C M rc nc) {x y z : Int32} {d : Bool} (hc : cdAdd C nc x y z = 0) : RR (doAdd C nc (cn x) (cn y) (cn z) d) (mdAdd M nc (cn x) (cn y) (cn z) d) rc (nc + 1) := by
  have h40 := h.1.1.2.2.2.2.2.2.1
  have h1n := h.1.1.2.2.2.2.2.2.2.1
  unfold cdAdd at hc
  obtain ⟨h1, hc⟩ := cd_ws hc
  obtain ⟨h2, hc⟩ := ite_ne0 (by omega) hc
  obtain ⟨h3, hc⟩ := ite_ne0 (by omega) hc
  obtain ⟨h4, hc⟩ := ite_ne0 (by omega) hc
  obtain ⟨h5, hc⟩ := ite_ne0 (by omega) hc
  have hi := (isP_cn h1).1
  obtain ⟨b1, b2, b3⟩ := aliveB_cn h2
  have hk := (inB_cn (by omega) h3.2).1
  clear hc h2 h3
  generalize cn x = i at hi h4 b3 ⊢
  generalize cn y = p at b1 b2 b3 h4 ⊢
  generalize cn z = k at hk h4 ⊢
  have ht := h.2.2.2 i hi
  have hfree := (lowG_m1 _ 15 1 (by omega)).mp h4
  have hal : ∀ n, n < 16 → ti (C.1 (3 * (41 + i)) 0 ||| (nI 1 <<< (nI nc &&& 31))) n = (ti (C.1 (3 * (41 + i)) 0) n || decide (n = nc)) := fun n hn => by rw [ti_or, ti_one (by omega) (by omega)]
  have hd : ti (C.1 (3 * (41 + i)) 0) nc = false := by
    cases e : ti (C.1 (3 * (41 + i)) 0) nc with
    | false => rfl
    | true => exact absurd (ht.2.2.1 nc h5 e) (by omega)
  have ev : ∀ n w, n < 16 → n ≠ nc → w < 3 → (doAdd C nc i p k d).1 (3 * (41 + i) + 1) (n * 3 + w) = C.1 (3 * (41 + i) + 1) (n * 3 + w) := fun n w hn hne hw => by
    rw [doAdd_1 _ _ _ _ _ _ hi]
    repeat' split
    all_goals first | rfl | (exfalso; omega)
  have em : ∀ n a, n < 16 → n ≠ nc → 5 ≤ a → a ≤ 8 → (mdAdd M nc i p k d).1 a (16 * (40 + i) + n) = M.1 a (16 * (40 + i) + n) := fun n a hn hne h5 h8 => by
    rw [mdAdd_1]
    repeat' split
    all_goals first | rfl | (exfalso; omega)
  refine RR_ws h (by omega) hi ?_ (fun a b ha h1 h2 => ?_) (fun b => ?_) (doAdd_2 _ _ _ _ _ _) (fun a b ha => ?_) (mdAdd_2 _ _ _ _ _ _) (fun u hu => ?_) (fun u n a hu hn h5 h8 => ?_) (fun n hn => ?_) ?_
  · obtain ⟨⟨a1, a2, a3, a4, a5, a6, a7, a8, a9⟩, c1, c2, c3, c4, c5, c6⟩ := h.1
    refine ⟨⟨?_, ?_, ?_, ?_, ?_, a6, a7, by omega, by omega⟩, fun r hr => ?_, fun r h1 hr => ?_, fun n hn => ?_, fun n h1 hn => ?_, fun n hn => ?_, ?_⟩
    · rw [mdAdd_1]; repeat' split
      all_goals first | exact a1 | (exfalso; omega)
    · rw [doAdd_1 _ _ _ _ _ _ hi]; repeat' split
      all_goals first | exact a2 | (exfalso; omega)
    · rw [mdAdd_1]; repeat' split
      all_goals first | exact a3 | (exfalso; omega)
    · rw [doAdd_1 _ _ _ _ _ _ hi]; repeat' split
      all_goals first | rfl | (exfalso; omega)
    · rw [mdAdd_1]; repeat' split
      all_goals first | rfl | (exfalso; omega)
    · rw [doAdd_2, mdAdd_2]; exact c1 r hr
    · rw [mdAdd_2]; exact c2 r h1 hr
    · have e1 : (mdAdd M nc i p k d).1 2 n = if n = nc then bI d else M.1 2 n := by
        rw [mdAdd_1]; repeat' split
        all_goals first | rfl | (exfalso; omega)
      have e2 : (doAdd C nc i p k d).1 139 6 = if d = true then C.1 139 6 ||| (nI 1 <<< (nI nc &&& 31)) else C.1 139 6 := by
        rw [doAdd_1 _ _ _ _ _ _ hi]
        cases d with
        | true => repeat' split
                  all_goals first | rfl | (exfalso; omega) | (exfalso; simp_all; done)
        | false => repeat' split
                   all_goals first | rfl | (exfalso; omega) | (exfalso; simp_all; done)
      rw [e1, e2]
      by_cases en : n = nc
      · subst en
        rw [if_pos rfl]
        cases d with
        | true => rw [if_pos rfl, ti_or, ti_one (by omega) (by omega)]; simp [bI]
        | false => rw [if_neg (by decide), c3 n hn, c4 n (Nat.le_refl _) hn]; simp [bI]
      · rw [if_neg en, ← c3 n hn]
        cases d with
        | true => rw [if_pos rfl, ti_or, ti_one (by omega) (by omega)]; simp [en]
        | false => rw [if_neg (by decide)]
    · rw [mdAdd_1]; repeat' split
      all_goals first | (exfalso; omega) | exact c4 n (by omega) hn
    · rw [doAdd_1 _ _ _ _ _ _ hi]; repeat' split
      all_goals first | (exfalso; omega) | exact c5 n hn
    · have e1 : ∀ b, (doAdd C nc i p k d).1 121 b = C.1 121 b := fun b => by
        rw [doAdd_1 _ _ _ _ _ _ hi]; repeat' split
        all_goals first | rfl | (exfalso; omega)
      have e2 : ∀ a, 5 ≤ a → a ≤ 8 → (mdAdd M nc i p k d).1 a 672 = M.1 a 672 := fun a _ _ => by
        rw [mdAdd_1]; repeat' split
        all_goals first | rfl | (exfalso; omega)
      rw [e1, e1, e1, e2 5 (by omega) (by omega), e2 6 (by omega) (by omega), e2 7 (by omega) (by omega), e2 8 (by omega) (by omega)]
      exact c6
  · rw [doAdd_1 _ _ _ _ _ _ hi]; repeat' split
    all_goals first | rfl | (exfalso; omega)
  · rw [doAdd_1 _ _ _ _ _ _ hi]; repeat' split
    all_goals first | rfl | (exfalso; omega)
  · rw [mdAdd_1]; repeat' split
    all_goals first | rfl | (exfalso; omega)
  · rw [mdAdd_1]; repeat' split
    all_goals first | rfl | (exfalso; omega)
  · rw [mdAdd_1]; repeat' split
    all_goals first | rfl | (exfalso; omega)
  · rw [mdAdd_1]; repeat' split
    all_goals first | rfl | (exfalso; omega)
  · have eal : (doAdd C nc i p k d).1 (3 * (41 + i)) 0 = C.1 (3 * (41 + i)) 0 ||| (nI 1 <<< (nI nc &&& 31)) := by rw [doAdd_1 _ _ _ _ _ _ hi, if_pos ⟨rfl, rfl⟩]
    have emal : (mdAdd M nc i p k d).1 4 (40 + i) = M.1 4 (40 + i) ||| (nI 1 <<< (nI nc &&& 31)) := by
      rw [mdAdd_1]; repeat' split
      all_goals first | rfl | (exfalso; omega)
    have v0 : (doAdd C nc i p k d).1 (3 * (41 + i) + 1) (nc * 3) = nI (p * 10 + k) := by
      rw [doAdd_1 _ _ _ _ _ _ hi]; repeat' split
      all_goals first | rfl | (exfalso; omega)
    have v1 : (doAdd C nc i p k d).1 (3 * (41 + i) + 1) (nc * 3 + 1) = nI 0 := by
      rw [doAdd_1 _ _ _ _ _ _ hi]; repeat' split
      all_goals first | rfl | (exfalso; omega)
    have v2 : (doAdd C nc i p k d).1 (3 * (41 + i) + 1) (nc * 3 + 2) = nI 0 := by
      rw [doAdd_1 _ _ _ _ _ _ hi]; repeat' split
      all_goals first | rfl | (exfalso; omega)
    have m5 : (mdAdd M nc i p k d).1 5 (16 * (40 + i) + nc) = nI p := by
      rw [mdAdd_1]; repeat' split
      all_goals first | rfl | (exfalso; omega)
    have m6 : (mdAdd M nc i p k d).1 6 (16 * (40 + i) + nc) = nI k := by
      rw [mdAdd_1]; repeat' split
      all_goals first | rfl | (exfalso; omega)
    have m7 : (mdAdd M nc i p k d).1 7 (16 * (40 + i) + nc) = nI 0 := by
      rw [mdAdd_1]; repeat' split
      all_goals first | rfl | (exfalso; omega)
    have m8 : (mdAdd M nc i p k d).1 8 (16 * (40 + i) + nc) = nI 0 := by
      rw [mdAdd_1]; repeat' split
      all_goals first | rfl | (exfalso; omega)
    obtain ⟨t0, t1, t2, t3, t4, t5, t6, t7⟩ := ht
    refine ⟨by rw [eal, emal, t0], ?_⟩
    rw [eal]
    have old : ∀ n, n < 16 → ti (C.1 (3 * (41 + i)) 0 ||| (nI 1 <<< (nI nc &&& 31))) n = true → n ≠ nc → ti (C.1 (3 * (41 + i)) 0) n = true := fun n hn ha hne => by
      rw [hal n hn] at ha; simpa [hne] using ha
    have new : ∀ n, n < 16 → ti (C.1 (3 * (41 + i)) 0) n = true → ti (C.1 (3 * (41 + i)) 0 ||| (nI 1 <<< (nI nc &&& 31))) n = true := fun n hn ha => by
      rw [hal n hn, ha]; rfl
    have ups : ∀ n, n < 16 → ti (C.1 (3 * (41 + i)) 0) n = true → ∃ q, Up (fun n => (mdAdd M nc i p k d).1 5 (16 * (40 + i) + n)) q n := fun n hn ha => by
      obtain ⟨q, hq⟩ := t7 n hn ha
      refine ⟨q, Up_congr (al := C.1 (3 * (41 + i)) 0) (fun m h1m hm ham => ⟨em m 5 hm (fun e => by rw [e, hd] at ham; cases ham) (by omega) (by omega), ?_⟩) q n hn ha hq⟩
      obtain ⟨x, y, hx, _, _, ex, _, hax⟩ := t5 m h1m hm ham
      exact ⟨x, hx, ex, hax⟩
    refine ⟨new 0 (by omega) t1, fun n hn ha => ?_, ?_, fun n hn ha => ?_, fun n h1 hn ha => ?_, fun n m q1 q2 q3 q4 q5 q6 q7 => ?_, fun n hn ha => ?_⟩
    · by_cases e : n = nc
      · omega
      · have := t2 n hn (old n hn ha e); omega
    · rw [ev 0 0 (by omega) (by omega) (by omega)]
      refine ⟨t3.1, ?_, ?_⟩
      · show (mdAdd M nc i p k d).1 5 (16 * (40 + i) + 0) = -1
        rw [em 0 5 (by omega) (by omega) (by omega) (by omega)]; exact t3.2.1
      · show (mdAdd M nc i p k d).1 6 (16 * (40 + i) + 0) = -1
        rw [em 0 6 (by omega) (by omega) (by omega) (by omega)]; exact t3.2.2
    · show _ = (mdAdd M nc i p k d).1 7 (16 * (40 + i) + n) ∧ _ = (mdAdd M nc i p k d).1 8 (16 * (40 + i) + n)
      by_cases e : n = nc
      · rw [e, v1, v2, m7, m8]; exact ⟨rfl, rfl⟩
      · rw [ev n 1 hn e (by omega), ev n 2 hn e (by omega), em n 7 hn e (by omega) (by omega), em n 8 hn e (by omega) (by omega)]
        exact t4 n hn (old n hn ha e)
    · show ∃ x y, x < 16 ∧ y < 10 ∧ _ ∧ (mdAdd M nc i p k d).1 5 (16 * (40 + i) + n) = nI x ∧ (mdAdd M nc i p k d).1 6 (16 * (40 + i) + n) = nI y ∧ _
      by_cases e : n = nc
      · rw [e, v0, m5, m6]
        exact ⟨p, k, b1, hk, rfl, rfl, rfl, new p b1 b3⟩
      · obtain ⟨x, y, hx, hy, e1, e2, e3, hax⟩ := t5 n h1 hn (old n hn ha e)
        refine ⟨x, y, hx, hy, ?_, ?_, ?_, new x hx hax⟩
        · rw [show n * 3 = n * 3 + 0 from rfl, ev n 0 hn e (by omega)]; exact e1
        · rw [em n 5 hn e (by omega) (by omega)]; exact e2
        · rw [em n 6 hn e (by omega) (by omega)]; exact e3
    · by_cases e : n = nc
      · by_cases e' : m = nc
        · rw [e, e']
        · exfalso
          rw [e, v0, show m * 3 = m * 3 + 0 from rfl, ev m 0 q4 e' (by omega)] at q7
          have := hfree m q3 (by omega)
          rw [old m q4 q6 e', Bool.true_and] at this
          rw [beq_eq_false_iff_ne] at this
          exact this q7.symm
      · by_cases e' : m = nc
        · exfalso
          rw [e', v0, show n * 3 = n * 3 + 0 from rfl, ev n 0 q2 e (by omega)] at q7
          have := hfree n q1 (by omega)
          rw [old n q2 q5 e, Bool.true_and] at this
          rw [beq_eq_false_iff_ne] at this
          exact this q7
        · rw [show n * 3 = n * 3 + 0 from rfl, show m * 3 = m * 3 + 0 from rfl, ev n 0 q2 e (by omega), ev m 0 q4 e' (by omega)] at q7
          exact t6 n m q1 q2 q3 q4 (old n q2 q5 e) (old m q4 q6 e') q7
    · by_cases e : n = nc
      · obtain ⟨q, hq⟩ := ups p b1 b3
        refine ⟨q + 1, Or.inr ?_⟩
        show Up _ q (cn ((mdAdd M nc i p k d).1 5 (16 * (40 + i) + n)))
        rw [e, m5, cn_nI (by omega)]
        exact hq
      · exact ups n hn (old n hn ha e)
/-- drop -/
theorem anyG_iff (p : Nat → Bool) : ∀ (n i : Nat), anyG p n i = true ↔ ∃ j, i ≤ j ∧ j < i + n ∧ p j = true
  | 0, i => ⟨fun h => (by cases h), fun ⟨j, h1, h2, _⟩ => by omega⟩
  | n + 1, i => by
    rw [anyG, Bool.or_eq_true, anyG_iff p n (i + 1)]
    constructor
    · rintro (h | ⟨j, h1, h2, h3⟩)
      · exact ⟨i, by omega, by omega, h⟩
      · exact ⟨j, by omega, by omega, h3⟩
    · rintro ⟨j, h1, h2, h3⟩
      by_cases e : j = i
      · exact Or.inl (e ▸ h3)
      · exact Or.inr ⟨j, by omega, by omega, h3⟩
theorem hdG_iff (S : SS) (t : Nat) (y : Int32) : ∀ (k n : Nat) (b : Bool), hdG S t y k n b = true ↔ b = true ∨ ∃ j, n ≤ j ∧ j < n + k ∧ (ti (S.1 4 t) j && (S.1 5 (16 * t + j) == y)) = true
  | 0, n, b => ⟨fun h => Or.inl h, fun h => h.elim id (fun ⟨j, h1, h2, _⟩ => by omega)⟩
  | k + 1, n, b => by
    rw [hdG, hdG_iff S t y k (n + 1) _, Bool.or_eq_true]
    constructor
    · rintro ((h | h) | ⟨j, h1, h2, h3⟩)
      · exact Or.inl h
      · exact Or.inr ⟨n, by omega, by omega, h⟩
      · exact Or.inr ⟨j, by omega, by omega, h3⟩
    · rintro (h | ⟨j, h1, h2, h3⟩)
      · exact Or.inl (Or.inl h)
      · by_cases e : j = n
        · exact Or.inl (Or.inr (e ▸ h3))
        · exact Or.inr ⟨j, by omega, by omega, h3⟩
theorem R_par {C M : SS} {nc t u : Nat} (h : RT C M nc t u) (y : Int32) {j : Nat} (hj : j < 16) : (ti (C.1 (3 * t) 0) j && (dP (C.1 (3 * t + 1) (j * 3)) == y)) = (ti (M.1 4 u) j && (M.1 5 (16 * u + j) == y)) := by
  rw [← h.1]
  cases ha : ti (C.1 (3 * t) 0) j with
  | false => rfl
  | true => rw [(R_place h hj ha).1]
theorem e_drop {C M : SS} {rc nc : Nat} (h : RR C M rc nc) (x y : Int32) : cdDrop C x y = mcDrop M x y := by
  unfold cdDrop mcDrop
  refine R_ws h (fun h1 => ?_)
  have ht := h.2.2.2 (cn x) (isP_cn h1).1
  rw [R_alive ht]
  refine if_of (fun h2 => ?_) (fun _ => rfl)
  have hh := hdG_iff M (40 + cn x) y 15 1 (decide (y = 0))
  have ha := anyG_iff (fun j => ti (C.1 (3 * (41 + cn x)) 0) j && (dP (C.1 (3 * (41 + cn x) + 1) (j * 3)) == y)) 15 1
  by_cases q : y = 0
  · rw [if_pos q, if_pos (hh.mpr (Or.inl (by simp [q])))]
  · rw [if_neg q]
    refine if_of2 ?_ (fun _ => rfl) (fun _ => rfl)
    show anyG _ 15 1 = true ↔ _
    rw [ha, hh]
    constructor
    · rintro ⟨j, h1, h2, h3⟩
      have h3' : (ti (C.1 (3 * (41 + cn x)) 0) j && (dP (C.1 (3 * (41 + cn x) + 1) (j * 3)) == y)) = true := h3
      rw [R_par ht y (by omega)] at h3'
      exact Or.inr ⟨j, h1, h2, h3'⟩
    · rintro (h0 | ⟨j, h1, h2, h3⟩)
      · exact absurd (of_decide_eq_true h0) q
      · refine ⟨j, h1, h2, ?_⟩
        show (ti (C.1 (3 * (41 + cn x)) 0) j && (dP (C.1 (3 * (41 + cn x) + 1) (j * 3)) == y)) = true
        rw [R_par ht y (by omega)]
        exact h3
theorem p_drop {C M : SS} {rc nc : Nat} (h : RR C M rc nc) {x y : Int32} (hc : cdDrop C x y = 0) : RR (doDrop C (cn x) (cn y)) (s1 M 4 (40 + cn x) (M.1 4 (40 + cn x) &&& ((nI 1 <<< (nI (cn y) &&& 31)) ^^^ (-1)))) rc nc := by
  have h40 := h.1.1.2.2.2.2.2.2.1
  unfold cdDrop at hc
  obtain ⟨h1, hc⟩ := cd_ws hc
  obtain ⟨h2, hc⟩ := ite_ne0 (by omega) hc
  obtain ⟨h3, hc⟩ := ite_ne1 (by omega) hc
  obtain ⟨h4, hc⟩ := ite_ne1 (by omega) hc
  have hi := (isP_cn h1).1
  obtain ⟨b1, b2, b3⟩ := aliveB_cn h2
  have b0 : 1 ≤ cn y := by
    rcases Nat.eq_zero_or_pos (cn y) with e | e
    · rw [e] at b2; exact absurd b2 h3
    · exact e
  have hnp : ∀ j, 1 ≤ j → j < 16 → ti (C.1 (3 * (41 + cn x)) 0) j = true → dP (C.1 (3 * (41 + cn x) + 1) (j * 3)) ≠ y := fun j q1 q2 q3 q4 => h4 ((anyG_iff _ 15 1).mpr ⟨j, q1, by omega, by show (_ && _) = true; rw [q3, q4]; simp⟩)
  clear hc h2 h3 h4
  generalize cn x = i at hi b3 hnp ⊢
  generalize cn y = m at b0 b1 b2 b3 ⊢
  subst b2
  have ht := h.2.2.2 i hi
  have hal : ∀ n, n < 16 → ti (C.1 (3 * (41 + i)) 0 &&& ((nI 1 <<< (nI m &&& 31)) ^^^ (-1))) n = (ti (C.1 (3 * (41 + i)) 0) n && !decide (n = m)) := fun n hn => by rw [ti_and, ti_not (by omega) (by omega)]
  have e1 : ∀ a b, a ≠ 3 * (41 + i) → (doDrop C i m).1 a b = C.1 a b := fun a b ha => s1_o _ _ _ _ (by omega)
  have f1 : ∀ a b, ¬ (a = 4 ∧ b = 40 + i) → (s1 M 4 (40 + i) (M.1 4 (40 + i) &&& ((nI 1 <<< (nI m &&& 31)) ^^^ (-1)))).1 a b = M.1 a b := fun a b ha => s1_o _ _ _ _ ha
  refine RR_ws h (Nat.le_refl _) hi (RC_congr h.1 (fun b => e1 _ _ (by omega)) (fun _ _ => rfl) (fun n _ => e1 _ _ (by omega)) (fun b => e1 _ _ (by omega)) (fun b => f1 _ _ (by omega)) (fun _ _ => rfl) (fun n _ => f1 _ _ (by omega)) (fun a _ _ => f1 _ _ (by omega)))
    (fun a b ha h1 h2 => e1 _ _ h1) (fun b => e1 _ _ (by omega)) rfl (fun a b ha => f1 _ _ (by omega)) rfl (fun u hu => f1 _ _ (by omega)) (fun u n a hu hn h5 h8 => f1 _ _ (by omega)) (fun n hn => f1 _ _ (by omega)) ?_
  have eal : (doDrop C i m).1 (3 * (41 + i)) 0 = C.1 (3 * (41 + i)) 0 &&& ((nI 1 <<< (nI m &&& 31)) ^^^ (-1)) := s1_h _ _ _ _
  refine ⟨by rw [eal, s1_h, ht.1], ?_⟩
  obtain ⟨t0, t1, t2, t3, t4, t5, t6, t7⟩ := ht
  rw [eal]
  have old : ∀ n, n < 16 → ti (C.1 (3 * (41 + i)) 0 &&& ((nI 1 <<< (nI m &&& 31)) ^^^ (-1))) n = true → ti (C.1 (3 * (41 + i)) 0) n = true ∧ n ≠ m := fun n hn ha => by
    rw [hal n hn] at ha; simpa using ha
  have new : ∀ n, n < 16 → ti (C.1 (3 * (41 + i)) 0) n = true → n ≠ m → ti (C.1 (3 * (41 + i)) 0 &&& ((nI 1 <<< (nI m &&& 31)) ^^^ (-1))) n = true := fun n hn ha hne => by
    rw [hal n hn, ha]; simp [hne]
  have ev : ∀ b, (doDrop C i m).1 (3 * (41 + i) + 1) b = C.1 (3 * (41 + i) + 1) b := fun b => e1 _ _ (by omega)
  have ef : ∀ a, 5 ≤ a → (fun n => (s1 M 4 (40 + i) (M.1 4 (40 + i) &&& ((nI 1 <<< (nI m &&& 31)) ^^^ (-1)))).1 a (16 * (40 + i) + n)) = (fun n => M.1 a (16 * (40 + i) + n)) := fun a ha => by funext n; exact f1 _ _ (by omega)
  rw [ef 5 (by omega), ef 6 (by omega), ef 7 (by omega), ef 8 (by omega), show (doDrop C i m).1 (3 * (41 + i) + 1) = C.1 (3 * (41 + i) + 1) from by funext b; exact ev b]
  refine ⟨new 0 (by omega) t1 (by omega), fun n hn ha => t2 n hn (old n hn ha).1, t3, fun n hn ha => t4 n hn (old n hn ha).1, fun n h1 hn ha => ?_, fun n k q1 q2 q3 q4 q5 q6 q7 => t6 n k q1 q2 q3 q4 (old n q2 q5).1 (old k q4 q6).1 q7, fun n hn ha => t7 n hn (old n hn ha).1⟩
  obtain ⟨x, y, hx, hy, e1, e2, e3, hax⟩ := t5 n h1 hn (old n hn ha).1
  refine ⟨x, y, hx, hy, e1, e2, e3, new x hx hax (fun e => ?_)⟩
  refine hnp n h1 hn (old n hn ha).1 ?_
  rw [e1, dP_nI hx hy, e]
