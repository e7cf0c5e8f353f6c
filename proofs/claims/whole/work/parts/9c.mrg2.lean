/-! the two merges, node by node -/
theorem maG_bits (M : SS) (bi : Nat → Nat) (i a b : Nat) : ∀ (k n : Nat) (x : Int32) (m : Nat), n + k ≤ 16 → m < 16 → ti (maG M bi i a b k n x) m = (ti x m || (decide (n ≤ m ∧ m < n + k) && maC M i a b m (bi m)))
  | 0, n, x, m, _, _ => by
    rw [maG, decide_eq_false (show ¬ (n ≤ m ∧ m < n + 0) by omega)]; simp
  | k + 1, n, x, m, h, hm => by
    rw [maG, maG_bits M bi i a b k (n + 1) _ m (by omega) hm]
    by_cases e : m = n
    · subst e
      rw [decide_eq_false (show ¬ (m + 1 ≤ m ∧ m < m + 1 + k) by omega), decide_eq_true (show m ≤ m ∧ m < m + (k + 1) by omega)]
      cases hc : maC M i a b m (bi m) with
      | false => rw [if_neg (by decide)]; simp
      | true => rw [if_pos rfl, ti_or, ti_one (by omega) (by omega)]; simp
    · have : decide (n + 1 ≤ m ∧ m < n + 1 + k) = decide (n ≤ m ∧ m < n + (k + 1)) := by rw [decide_eq_decide]; omega
      rw [this]
      congr 1
      split
      · rw [ti_or, ti_one (by omega) (by omega)]; simp [e]
      · rfl
theorem maG_add (M : SS) (bi : Nat → Nat) (i a b : Nat) : ∀ (j k n : Nat) (x : Int32), maG M bi i a b (j + k) n x = maG M bi i a b k (n + j) (maG M bi i a b j n x)
  | 0, k, n, x => by rw [Nat.zero_add]; rfl
  | j + 1, k, n, x => by rw [show j + 1 + k = (j + k) + 1 by omega, maG, maG_add M bi i a b j k, maG, show n + 1 + j = n + (j + 1) by omega]
theorem maG_no (M : SS) (bi : Nat → Nat) (i a b : Nat) : ∀ (k n : Nat) (x : Int32), (∀ m, n ≤ m → m < n + k → maC M i a b m (bi m) = false) → maG M bi i a b k n x = x
  | 0, _, _, _ => rfl
  | k + 1, n, x, h => by rw [maG, h n (by omega) (by omega), if_neg (by decide), maG_no M bi i a b k (n + 1) x (fun m h1 h2 => h m (by omega) (by omega))]
theorem mmN_add (i a b r : Nat) : ∀ (j k n : Nat) (S : SS), mmN i a b r (j + k) n S = mmN i a b r k (n + j) (mmN i a b r j n S)
  | 0, k, n, S => by rw [Nat.zero_add]; rfl
  | j + 1, k, n, S => by rw [show j + 1 + k = (j + k) + 1 by omega, mmN, mmN_add i a b r j k, mmN, show n + 1 + j = n + (j + 1) by omega]
theorem R_kn {C M : SS} {rc nc : Nat} (h : RR C M rc nc) {j b : Nat} (hj : j < 40) (hb : b < 40) : tb (C.2 141 b ||| b64 b) j = mKn M j b := by
  unfold mKn
  rw [tb_or, tb_b64 (by omega) (by omega), h.1.2.1 b hb, Bool.or_comm]
theorem CN_congr {C0 T T' : SS} {n : Nat} {u : Nat → Bool} {f : Nat → Nat} {mk : Nat → Int64} (h : CN C0 T n u f mk) (e1 : ∀ w, w < 3 → tb (T'.2 139 9) (n * 3 + w) = tb (T.2 139 9) (n * 3 + w)) (e2 : ∀ w, w < 3 → T'.1 121 (n * 3 + w) = T.1 121 (n * 3 + w) ∧ T'.2 122 (n * 3 + w) = T.2 122 (n * 3 + w)) : CN C0 T' n u f mk := by
  intro w hw
  obtain ⟨h1, h2, h3⟩ := h w hw
  rw [e1 w hw, (e2 w hw).1, (e2 w hw).2]
  refine ⟨h1, h2, fun q1 q2 => ?_⟩
  have := (e2 0 (by omega)).1
  rw [Nat.add_zero] at this
  rw [this]; exact h3 q1 q2
theorem MN_congr {M0 T T' : SS} {n : Nat} {u : Nat → Bool} {f : Nat → Nat} {mk : Nat → Int64} (h : MN M0 T n u f mk) (e1 : T'.1 19 n = T.1 19 n) (e2 : ∀ w, w < 3 → T'.2 9 (2016 + (3 * n + w)) = T.2 9 (2016 + (3 * n + w))) (e3 : ∀ x, 5 ≤ x → x ≤ 8 → T'.1 x (672 + n) = T.1 x (672 + n)) : MN M0 T' n u f mk := by
  refine ⟨fun w hw => ?_, fun x q1 q2 q3 => ?_⟩
  · rw [e1, e2 w hw]; exact h.1 w hw
  · rw [e3 x q1 q2]; exact h.2 x q1 q2 q3
theorem MN_eq {M0 T : SS} {n : Nat} {u u' : Nat → Bool} {f f' : Nat → Nat} {mk mk' : Nat → Int64} (h : MN M0 T n u f mk) (e : ∀ w, w < 3 → u' w = u w ∧ (u' w = false → f' w = f w ∧ mk' w = mk w)) : MN M0 T n u' f' mk' := by
  refine ⟨fun w hw => ?_, fun x q1 q2 q3 => ?_⟩
  · obtain ⟨e1, e2⟩ := e w hw
    obtain ⟨h1, h2⟩ := h.1 w hw
    rw [e1]
    refine ⟨h1, fun z => ?_⟩
    rw [(e2 (by rw [e1]; exact z)).2]; exact h2 z
  · obtain ⟨e1, e2⟩ := e (x - 6) (by omega)
    rw [(e2 q3).1]
    exact h.2 x q1 q2 (by rw [← e1]; exact q3)
/-- a node of the merged trees -/
def ND (C0 M0 S T : SS) (a b m : Nat) : Prop := ∃ (u : Nat → Bool) (f : Nat → Nat) (mk : Nat → Int64), (∀ w, w < 3 → (f w = a ∨ f w = b) ∧ ti (C0.1 (3 * f w) 0) m = true) ∧ CN C0 S m u f mk ∧ MN M0 T m u f mk
def MI (C0 M0 : SS) (bi : Nat → Nat) (i a b k : Nat) (S T : SS) : Prop :=
  Fr S C0 ∧ FrM T M0 ∧ (∀ m w, k ≤ m → m < 16 → w < 3 → tb (S.2 139 9) (m * 3 + w) = false) ∧ (∀ c, c < 3 → S.1 121 c = C0.1 121 c) ∧ (∀ x, 5 ≤ x → x ≤ 8 → T.1 x 672 = M0.1 x 672) ∧
  T.1 4 42 = maG M0 bi i a b 15 1 (nI 1) ∧ (∀ m, 1 ≤ m → m < k → maC M0 i a b m (bi m) = true → ND C0 M0 S T a b m)
theorem MI_ref {C0 M0 : SS} {bi : Nat → Nat} {i a b k : Nat} {S T : SS} (h : MI C0 M0 bi i a b k S T) (ha : a < 40) (hb : b < 40) (r : Nat) (h1 : 1 ≤ k) (hk : k < 16) (hno : maC M0 i a b k (bi k) = false) : MI C0 M0 bi i a b (k + 1) S (mmI0 i a b r k T) := by
  obtain ⟨h0, h2, h3, h4, h5, h6, h7⟩ := h
  obtain ⟨g1, g2, g3, g4, g5, _⟩ := mmI0_spec h2 ha hb r i hk
  refine ⟨h0, g1, fun m w q1 q2 q3 => h3 m w (by omega) q2 q3, h4, fun x q1 q2 => by rw [g4 x _ q1 q2 (by omega)]; exact h5 x q1 q2, by rw [g2]; exact h6, fun m q1 q2 q3 => ?_⟩
  have hne : m ≠ k := fun e => by rw [e, hno] at q3; cases q3
  obtain ⟨u, f, mk, n1, n2, n3⟩ := h7 m q1 (by omega) q3
  exact ⟨u, f, mk, n1, n2, MN_congr n3 (g3 m hne) (fun w hw => g5 _ (by omega)) (fun x q4 q5 => g4 x _ q4 q5 (by omega))⟩
theorem MI_step {C0 M0 : SS} {rc nc : Nat} (h : RR C0 M0 rc nc) {bi : Nat → Nat} (hbi : ∀ n, n < 16 → bi n < 40) {i a b k : Nat} (hi : i < 2) (ha : a < rc) (hb : b < rc) {S T : SS} (hM : MI C0 M0 bi i a b k S T) (h1 : 1 ≤ k) (hk : k < 16) :
    MI C0 M0 bi i a b (k + 1) (mt1 S rc i a b k (bi k)) (mmI0 i a b rc k T) ∧ (mt1 S rc i a b k (bi k)).1 120 0 = (if maC M0 i a b k (bi k) = true then S.1 120 0 ||| (nI 1 <<< (nI k &&& 31)) else S.1 120 0) := by
  have h40 := h.1.1.2.2.2.2.2.2.1
  have hM' := hM
  obtain ⟨h0, h2, h3, h4, h5, h6, h7⟩ := hM
  have eb : S.1 (129 + 5 * i) 6 = M0.1 13 i := by rw [h0.1 _ _ (by omega) (by omega)]; exact (h.2.1 i hi).2.2.1
  have eA : S.1 (3 * a) 0 = C0.1 (3 * a) 0 := h0.1 _ _ (by omega) (by omega)
  have eB : S.1 (3 * b) 0 = C0.1 (3 * b) 0 := h0.1 _ _ (by omega) (by omega)
  have ekb : tb (S.2 141 b ||| b64 b) (bi k) = mKn M0 (bi k) b := by rw [h0.2 _ _ (by omega) (by omega)]; exact R_kn h (hbi k hk) (by omega)
  have eka : tb (S.2 141 a ||| b64 a) (bi k) = mKn M0 (bi k) a := by rw [h0.2 _ _ (by omega) (by omega)]; exact R_kn h (hbi k hk) (by omega)
  have aA := (h.2.2.1 a ha).1.1
  have aB := (h.2.2.1 b hb).1.1
  have hz : ∀ w, w < 3 → tb (S.2 139 9) (k * 3 + w) = false := fun w hw => h3 k w (by omega) hk hw
  -- what goes in
  have put : ∀ S', (Fr S' C0 ∧ S'.1 120 0 = S.1 120 0 ||| (nI 1 <<< (nI k &&& 31)) ∧ (∀ c, (c < k * 3 ∨ k * 3 + 3 ≤ c) → S'.1 121 c = S.1 121 c ∧ S'.2 122 c = S.2 122 c) ∧ (∀ q, q < 64 → (q < k * 3 ∨ k * 3 + 3 ≤ q) → tb (S'.2 139 9) q = tb (S.2 139 9) q) ∧ ND C0 M0 S' (mmI0 i a b rc k T) a b k) → MI C0 M0 bi i a b (k + 1) S' (mmI0 i a b rc k T) := by
    rintro S' ⟨s1', s2', s3', s4', s5'⟩
    obtain ⟨g1, g2, g3, g4, g5, _⟩ := mmI0_spec h2 (show a < 40 by omega) (show b < 40 by omega) rc i hk
    refine ⟨s1', g1, fun m w q1 q2 q3 => by rw [s4' _ (by omega) (by omega)]; exact h3 m w (by omega) q2 q3, fun c hc => by rw [(s3' c (by omega)).1]; exact h4 c hc, fun x q1 q2 => by rw [g4 x _ q1 q2 (by omega)]; exact h5 x q1 q2, by rw [g2]; exact h6, fun m q1 q2 q3 => ?_⟩
    by_cases e : m = k
    · subst e; exact s5'
    · obtain ⟨u, f, mk, n1, n2, n3⟩ := h7 m q1 (by omega) q3
      exact ⟨u, f, mk, n1, CN_congr n2 (fun w hw => s4' _ (by omega) (by omega)) (fun w hw => s3' _ (by omega)), MN_congr n3 (g3 m e) (fun w hw => g5 _ (by omega)) (fun x q4 q5 => g4 x _ q4 q5 (by omega))⟩
  obtain ⟨_, _, _, _, _, gB, gA', gb⟩ := mmI0_spec h2 (show a < 40 by omega) (show b < 40 by omega) rc i hk
  have hAl : maC M0 i a b k (bi k) = true → ti (T.1 4 42) k = true := fun z => by
    rw [h6, maG_bits M0 bi i a b 15 1 _ k (by omega) hk, z, decide_eq_true (show 1 ≤ k ∧ k < 1 + 15 by omega)]; simp
  unfold mt1
  rw [eb, eA, eB, ekb, eka]
  have hno : maC M0 i a b k (bi k) = false → MI C0 M0 bi i a b (k + 1) S (mmI0 i a b rc k T) := fun z => MI_ref hM' (by omega) (by omega) rc h1 hk z
  have hmc : maC M0 i a b k (bi k) = (((ti (C0.1 (3 * a) 0) k && ti (C0.1 (3 * b) 0) k) || (ti (C0.1 (3 * a) 0) k && !mKn M0 (bi k) b) || (ti (C0.1 (3 * b) 0) k && !mKn M0 (bi k) a)) && !ti (M0.1 13 i) k) := by unfold maC; rw [aA, aB]
  cases q1 : ti (M0.1 13 i) k with
  | true =>
    have hf : maC M0 i a b k (bi k) = false := by rw [hmc, q1]; simp
    rw [if_pos rfl, hf, if_neg (by decide)]
    exact ⟨hno hf, rfl⟩
  | false =>
    rw [if_neg (by decide)]
    cases q2 : ti (C0.1 (3 * a) 0) k with
    | true =>
      rw [if_pos rfl]
      cases q3 : ti (C0.1 (3 * b) 0) k with
      | true =>
        have hf : maC M0 i a b k (bi k) = true := by rw [hmc, q1, q2, q3]; simp
        rw [if_pos rfl, hf, if_pos rfl]
        obtain ⟨s1', s2', s3', s4', s5'⟩ := mnS_spec h0 (show a < 40 by omega) (show b < 40 by omega) rc i k h1 hk hz
        refine ⟨put _ ⟨s1', s2', s3', s4', uC C0 i a b k, fC C0 i a b k, kC C0 rc i a b k, fun w hw => ?_, s5', ?_⟩, s2'⟩
        · unfold fC
          split
          · exact ⟨Or.inr rfl, q3⟩
          · exact ⟨Or.inl rfl, q2⟩
        · exact MN_eq (gB (hAl hf) (by rw [← aA]; exact q2) (by rw [← aB]; exact q3)) (fun w hw => R_scal h hi ha hb h1 hk hw q2 q3)
      | false =>
        rw [if_neg (by decide)]
        cases q4 : mKn M0 (bi k) b with
        | true =>
          have hf : maC M0 i a b k (bi k) = false := by rw [hmc, q1, q2, q3, q4]; simp
          rw [if_pos rfl, hf, if_neg (by decide)]
          exact ⟨hno hf, rfl⟩
        | false =>
          have hf : maC M0 i a b k (bi k) = true := by rw [hmc, q1, q2, q3, q4]; simp
          rw [if_neg (by decide), hf, if_pos rfl]
          obtain ⟨s1', s2', s3', s4', s5'⟩ := cnS_spec h0 (show a < 40 by omega) k h1 hk hz
          refine ⟨put _ ⟨s1', s2', s3', s4', _, _, _, fun w hw => ⟨Or.inl rfl, q2⟩, s5', ?_⟩, s2'⟩
          exact MN_eq (gA' (hAl hf) (by rw [← aA]; exact q2) (by rw [← aB]; exact q3)) (fun w hw => ⟨rfl, fun _ => ⟨rfl, (h.2.2.1 a ha).2.1 k w h1 hk hw q2⟩⟩)
    | false =>
      rw [if_neg (by decide)]
      cases q3 : ti (C0.1 (3 * b) 0) k with
      | true =>
        rw [if_pos rfl]
        cases q4 : mKn M0 (bi k) a with
        | true =>
          have hf : maC M0 i a b k (bi k) = false := by rw [hmc, q1, q2, q3, q4]; simp
          rw [if_pos rfl, hf, if_neg (by decide)]
          exact ⟨hno hf, rfl⟩
        | false =>
          have hf : maC M0 i a b k (bi k) = true := by rw [hmc, q1, q2, q3, q4]; simp
          rw [if_neg (by decide), hf, if_pos rfl]
          obtain ⟨s1', s2', s3', s4', s5'⟩ := cnS_spec h0 (show b < 40 by omega) k h1 hk hz
          refine ⟨put _ ⟨s1', s2', s3', s4', _, _, _, fun w hw => ⟨Or.inr rfl, q3⟩, s5', ?_⟩, s2'⟩
          exact MN_eq (gb (hAl hf) (by rw [← aA]; exact q2)) (fun w hw => ⟨rfl, fun _ => ⟨rfl, (h.2.2.1 b hb).2.1 k w h1 hk hw q3⟩⟩)
      | false =>
        have hf : maC M0 i a b k (bi k) = false := by rw [hmc, q1, q2, q3]; simp
        rw [if_neg (by decide), hf, if_neg (by decide)]
        exact ⟨hno hf, rfl⟩
theorem MI_loop {C0 M0 : SS} {rc nc : Nat} (h : RR C0 M0 rc nc) {bi : Nat → Nat} (hbi : ∀ n, n < 16 → bi n < 40) {i a b : Nat} (hi : i < 2) (ha : a < rc) (hb : b < rc) : ∀ (j k : Nat) (S T : SS), 1 ≤ k → k + j ≤ 16 → MI C0 M0 bi i a b k S T → S.1 120 0 = maG M0 bi i a b (k - 1) 1 (nI 1) →
    MI C0 M0 bi i a b (k + j) (mtG bi rc i a b j k S) (mmN i a b rc j k T) ∧ (mtG bi rc i a b j k S).1 120 0 = maG M0 bi i a b (k + j - 1) 1 (nI 1)
  | 0, k, S, T, _, _, hM, hA => ⟨hM, hA⟩
  | j + 1, k, S, T, h1, hk, hM, hA => by
    obtain ⟨g1, g2⟩ := MI_step h hbi hi ha hb hM h1 (by omega)
    rw [mtG, mmN, show k + (j + 1) = (k + 1) + j by omega]
    refine MI_loop h hbi hi ha hb j (k + 1) _ _ (by omega) (by omega) g1 ?_
    rw [g2, hA, show k + 1 - 1 = (k - 1) + 1 by omega, maG_add, maG, maG, show 1 + (k - 1) = k by omega]
theorem MI_rest {C0 M0 : SS} {bi : Nat → Nat} {i a b : Nat} (ha : a < 40) (hb : b < 40) (r : Nat) : ∀ (j k : Nat) (S T : SS), 1 ≤ k → k + j ≤ 16 → (∀ m, k ≤ m → m < k + j → maC M0 i a b m (bi m) = false) → MI C0 M0 bi i a b k S T → MI C0 M0 bi i a b (k + j) S (mmN i a b r j k T)
  | 0, k, S, T, _, _, _, hM => hM
  | j + 1, k, S, T, h1, hk, hn, hM => by
    rw [mmN, show k + (j + 1) = (k + 1) + j by omega]
    exact MI_rest ha hb r j (k + 1) S _ (by omega) (by omega) (fun m q1 q2 => hn m (by omega) (by omega)) (MI_ref hM ha hb r h1 (by omega) (hn k (by omega) (by omega)))
/-- both merged trees -/
theorem MI_all {C M : SS} {rc nc : Nat} (h : RR C M rc nc) {bi : Nat → Nat} (hbi : ∀ n, n < 16 → bi n < 40) {i a b : Nat} (hi : i < 2) (ha : a < rc) (hb : b < rc) :
    MI C M bi i a b 16 (mtS C bi rc nc i a b) (mmN i a b rc 15 1 (s1 M 4 42 (maG M bi i a b 15 1 (nI 1)))) ∧ (mtS C bi rc nc i a b).1 120 0 = maG M bi i a b 15 1 (nI 1) ∧ (∀ m, nc ≤ m → m < 16 → maC M i a b m (bi m) = false) := by
  have h40 := h.1.1.2.2.2.2.2.2.1
  have h1n := h.1.1.2.2.2.2.2.2.2.1
  have h16 := h.1.1.2.2.2.2.2.2.2.2
  have hno : ∀ m, nc ≤ m → m < 16 → maC M i a b m (bi m) = false := fun m q1 q2 => by
    have d1 : ti (M.1 4 a) m = false := by
      cases e : ti (M.1 4 a) m with
      | false => rfl
      | true => rw [← (h.2.2.1 a ha).1.1] at e; exact absurd ((h.2.2.1 a ha).1.2.2.1 m q2 e) (by omega)
    have d2 : ti (M.1 4 b) m = false := by
      cases e : ti (M.1 4 b) m with
      | false => rfl
      | true => rw [← (h.2.2.1 b hb).1.1] at e; exact absurd ((h.2.2.1 b hb).1.2.2.1 m q2 e) (by omega)
    unfold maC
    rw [d1, d2]; simp
  have h0 : MI C M bi i a b 1 (s2 (s1 C (3 * 40) 0 (nI 1)) 139 9 0) (s1 M 4 42 (maG M bi i a b 15 1 (nI 1))) := by
    refine ⟨⟨fun x c q1 q2 => ?_, fun x c q1 q2 => ?_⟩, ⟨fun x c q1 q2 q3 => ?_, fun x c q => rfl⟩, fun m w q1 q2 q3 => ?_, fun c hc => ?_, fun x q1 q2 => ?_, s1_h _ _ _ _, fun m q1 q2 => by omega⟩
    · rw [s2_1, s1_o _ _ _ _ (by omega)]
    · rw [s2_o _ _ _ _ (by omega)]; rfl
    · rw [s1_o _ _ _ _ q1]
    · rw [s2_h, tb_0 (by omega)]
    · rw [s2_1, s1_o _ _ _ _ (by omega)]
    · rw [s1_o _ _ _ _ (by omega)]
  obtain ⟨g1, g2⟩ := MI_loop h hbi hi ha hb (nc - 1) 1 _ _ (by omega) (by omega) h0 (by rw [s2_1, s1_h]; rfl)
  rw [show 1 + (nc - 1) = nc by omega] at g1 g2
  have g3 := MI_rest (show a < 40 by omega) (show b < 40 by omega) rc (16 - nc) nc _ _ h1n (by omega) (fun m q1 q2 => hno m q1 (by omega)) g1
  rw [show nc + (16 - nc) = 16 by omega] at g3
  refine ⟨?_, ?_, hno⟩
  · rw [show (15 : Nat) = (nc - 1) + (16 - nc) by omega, mmN_add, show 1 + (nc - 1) = nc by omega]
    rw [show (nc - 1) + (16 - nc) = 15 by omega]
    exact g3
  · unfold mtS
    rw [g2, show (15 : Nat) = (nc - 1) + (16 - nc) by omega, maG_add, show 1 + (nc - 1) = nc by omega, maG_no M bi i a b (16 - nc) nc _ (fun m q1 q2 => hno m q1 (by omega))]
