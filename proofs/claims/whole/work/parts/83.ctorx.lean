def xL (G : GT) (v : Nat → Nat) (f : Nat → Option Nat) : va_W := [(v 0, .inr (2, [.ref (v 1), .ref (v 9), .ref (v 17), .ref (v 18), .int (nI 1), .ref (v 19), .int (nI 1), .int (nI 1), .ref (v 20), .long 0])),
  (v 1, .inr (0, [.long 1, .ref (v 2), .int (nI 15), .ref (v 3), .int (-1), .ref (v 8), .int 0, .ref (v 6), .ref (v 7), .int 0])),
  (v 2, .inl (gC G 1, 12, .inr (.inl (fun _ => 0)))),
  (v 3, .inr (1, [.int (nI 1), .ref (v 4), .ref (v 5)])),
  (v 4, .inl (gC G 0, 48, .inl iV)),
  (v 5, .inl (gC G 1, 48, .inr (.inl (fun _ => 0)))),
  (v 6, .inl (gC G 0, 48, .inl (fun _ => 0))),
  (v 7, .inl (gC G 0, 48, .inl (fun _ => 0))),
  (v 8, .inl (gC G 0, 48, .inl (fiF (-1) 48 0 (fun _ => 0)))),
  (v 9, .inr (0, [.long 1, .ref (v 10), .int (nI 15), .ref (v 11), .int (-1), .ref (v 16), .int 0, .ref (v 14), .ref (v 15), .int 0])),
  (v 10, .inl (gC G 1, 12, .inr (.inl (fun _ => 0)))),
  (v 11, .inr (1, [.int (nI 1), .ref (v 12), .ref (v 13)])),
  (v 12, .inl (gC G 0, 48, .inl iV)),
  (v 13, .inl (gC G 1, 48, .inr (.inl (fun _ => 0)))),
  (v 14, .inl (gC G 0, 48, .inl (fun _ => 0))),
  (v 15, .inl (gC G 0, 48, .inl (fun _ => 0))),
  (v 16, .inl (gC G 0, 48, .inl (fiF (-1) 48 0 (fun _ => 0)))),
  (v 17, .inl (gC G 3, 40, .inr (.inr (.inr (.inr f))))),
  (v 18, .inl (gC G 1, 40, .inr (.inl (fun _ => 0)))),
  (v 19, .inl (gC G 0, 16, .inl (fun _ => 0))),
  (v 20, .inr (1, [.int (nI 1), .ref (v 21), .ref (v 22)])),
  (v 21, .inl (gC G 0, 48, .inl iV)),
  (v 22, .inl (gC G 1, 48, .inr (.inl (fun _ => 0))))]
theorem xL_o (G : GT) (v : Nat → Nat) (f : Nat → Option Nat) (T : va_W) : (xL G v f ++ T)[0]? = some (v 0, .inr (2, [.ref (v 1), .ref (v 9), .ref (v 17), .ref (v 18), .int (nI 1), .ref (v 19), .int (nI 1), .int (nI 1), .ref (v 20), .long 0])) := rfl
theorem xL_t (G : GT) (v : Nat → Nat) (f : Nat → Option Nat) (T : va_W) : (xL G v f ++ T)[17]? = some (v 17, .inl (gC G 3, 40, .inr (.inr (.inr (.inr f))))) := rfl
theorem xL_s (G : GT) (v : Nat → Nat) (f f2 : Nat → Option Nat) (T : va_W) : (xL G v f ++ T).set 17 (v 17, .inl (gC G 3, 40, .inr (.inr (.inr (.inr f2))))) = xL G v f2 ++ T := rfl
theorem xL_len (G : GT) (v : Nat → Nat) (f : Nat → Option Nat) : (xL G v f).length = 23 := rfl
abbrev xO : List Nat := ([20, 21, 22, 3, 4, 5, 11, 12, 13, 1, 2, 8, 6, 7, 9, 10, 16, 14, 15, 0, 17, 18, 19] : List Nat)
def xU (v ad : Nat → Nat) : Nat → Nat := fun k => if k < 120 then ad k else v (xO.getD (k - 120) 0)
def xG (k : Nat) : Nat := if k < 120 then 23 + k else xO.getD (k - 120) 0
theorem xG_inj : ∀ i j : Nat, i < 143 → j < 143 → xG i = xG j → i = j := by
  have hsm : ∀ i : Nat, i < 23 → xO.getD i 0 < 23 := by decide
  have hij : ∀ i : Nat, i < 23 → ∀ j : Nat, j < 23 → xO.getD i 0 = xO.getD j 0 → i = j := by decide
  intro i j hi hj e9
  unfold xG at e9
  by_cases h1 : i < 120
  · rw [if_pos h1] at e9
    by_cases h2 : j < 120
    · rw [if_pos h2] at e9; omega
    · rw [if_neg h2] at e9; have := hsm (j - 120) (by omega); omega
  · rw [if_neg h1] at e9
    by_cases h2 : j < 120
    · rw [if_pos h2] at e9; have := hsm (i - 120) (by omega); omega
    · rw [if_neg h2] at e9; have := hij (i - 120) (by omega) (j - 120) (by omega) e9; omega
theorem arrV_cg {cI : ClassId} {N : Nat} {f g : Nat → Value} (h : ∀ j, j < N → f j = g j) : arrV cI N f = arrV cI N g := by
  unfold arrV
  have e : (fun j : Fin N => f j.val) = fun j : Fin N => g j.val := funext fun j => h j.val j.isLt
  rw [e]
theorem xU_lt (v ad : Nat → Nat) {j : Nat} (h : j < 120) : xU v ad j = ad j := if_pos h
theorem xk_120 (G : GT) (v ad : Nat → Nat) (T : va_W) : (xL G v (fun j => some (xU v ad (3 * j))) ++ T)[xG 120]? = some (xU v ad 120, cX (iG G (xU v ad)) 120 (cS0.1 120) (cS0.2 120)) := rfl
theorem xk_121 (G : GT) (v ad : Nat → Nat) (T : va_W) : (xL G v (fun j => some (xU v ad (3 * j))) ++ T)[xG 121]? = some (xU v ad 121, cX (iG G (xU v ad)) 121 (cS0.1 121) (cS0.2 121)) := rfl
theorem xk_122 (G : GT) (v ad : Nat → Nat) (T : va_W) : (xL G v (fun j => some (xU v ad (3 * j))) ++ T)[xG 122]? = some (xU v ad 122, cX (iG G (xU v ad)) 122 (cS0.1 122) (cS0.2 122)) := rfl
theorem xk_123 (G : GT) (v ad : Nat → Nat) (T : va_W) : (xL G v (fun j => some (xU v ad (3 * j))) ++ T)[xG 123]? = some (xU v ad 123, cX (iG G (xU v ad)) 123 (cS0.1 123) (cS0.2 123)) := rfl
theorem xk_124 (G : GT) (v ad : Nat → Nat) (T : va_W) : (xL G v (fun j => some (xU v ad (3 * j))) ++ T)[xG 124]? = some (xU v ad 124, cX (iG G (xU v ad)) 124 (cS0.1 124) (cS0.2 124)) := rfl
theorem xk_125 (G : GT) (v ad : Nat → Nat) (T : va_W) : (xL G v (fun j => some (xU v ad (3 * j))) ++ T)[xG 125]? = some (xU v ad 125, cX (iG G (xU v ad)) 125 (cS0.1 125) (cS0.2 125)) := rfl
theorem xk_126 (G : GT) (v ad : Nat → Nat) (T : va_W) : (xL G v (fun j => some (xU v ad (3 * j))) ++ T)[xG 126]? = some (xU v ad 126, cX (iG G (xU v ad)) 126 (cS0.1 126) (cS0.2 126)) := rfl
theorem xk_127 (G : GT) (v ad : Nat → Nat) (T : va_W) : (xL G v (fun j => some (xU v ad (3 * j))) ++ T)[xG 127]? = some (xU v ad 127, cX (iG G (xU v ad)) 127 (cS0.1 127) (cS0.2 127)) := rfl
theorem xk_128 (G : GT) (v ad : Nat → Nat) (T : va_W) : (xL G v (fun j => some (xU v ad (3 * j))) ++ T)[xG 128]? = some (xU v ad 128, cX (iG G (xU v ad)) 128 (cS0.1 128) (cS0.2 128)) := rfl
theorem xk_129 (G : GT) (v ad : Nat → Nat) (T : va_W) : (xL G v (fun j => some (xU v ad (3 * j))) ++ T)[xG 129]? = some (xU v ad 129, cX (iG G (xU v ad)) 129 (cS0.1 129) (cS0.2 129)) := rfl
theorem xk_130 (G : GT) (v ad : Nat → Nat) (T : va_W) : (xL G v (fun j => some (xU v ad (3 * j))) ++ T)[xG 130]? = some (xU v ad 130, cX (iG G (xU v ad)) 130 (cS0.1 130) (cS0.2 130)) := rfl
theorem xk_131 (G : GT) (v ad : Nat → Nat) (T : va_W) : (xL G v (fun j => some (xU v ad (3 * j))) ++ T)[xG 131]? = some (xU v ad 131, cX (iG G (xU v ad)) 131 (cS0.1 131) (cS0.2 131)) := rfl
theorem xk_132 (G : GT) (v ad : Nat → Nat) (T : va_W) : (xL G v (fun j => some (xU v ad (3 * j))) ++ T)[xG 132]? = some (xU v ad 132, cX (iG G (xU v ad)) 132 (cS0.1 132) (cS0.2 132)) := rfl
theorem xk_133 (G : GT) (v ad : Nat → Nat) (T : va_W) : (xL G v (fun j => some (xU v ad (3 * j))) ++ T)[xG 133]? = some (xU v ad 133, cX (iG G (xU v ad)) 133 (cS0.1 133) (cS0.2 133)) := rfl
theorem xk_134 (G : GT) (v ad : Nat → Nat) (T : va_W) : (xL G v (fun j => some (xU v ad (3 * j))) ++ T)[xG 134]? = some (xU v ad 134, cX (iG G (xU v ad)) 134 (cS0.1 134) (cS0.2 134)) := rfl
theorem xk_135 (G : GT) (v ad : Nat → Nat) (T : va_W) : (xL G v (fun j => some (xU v ad (3 * j))) ++ T)[xG 135]? = some (xU v ad 135, cX (iG G (xU v ad)) 135 (cS0.1 135) (cS0.2 135)) := rfl
theorem xk_136 (G : GT) (v ad : Nat → Nat) (T : va_W) : (xL G v (fun j => some (xU v ad (3 * j))) ++ T)[xG 136]? = some (xU v ad 136, cX (iG G (xU v ad)) 136 (cS0.1 136) (cS0.2 136)) := rfl
theorem xk_137 (G : GT) (v ad : Nat → Nat) (T : va_W) : (xL G v (fun j => some (xU v ad (3 * j))) ++ T)[xG 137]? = some (xU v ad 137, cX (iG G (xU v ad)) 137 (cS0.1 137) (cS0.2 137)) := rfl
theorem xk_138 (G : GT) (v ad : Nat → Nat) (T : va_W) : (xL G v (fun j => some (xU v ad (3 * j))) ++ T)[xG 138]? = some (xU v ad 138, cX (iG G (xU v ad)) 138 (cS0.1 138) (cS0.2 138)) := rfl
theorem xk_139 (G : GT) (v ad : Nat → Nat) (T : va_W) : (xL G v (fun j => some (xU v ad (3 * j))) ++ T)[xG 139]? = some (xU v ad 139, cX (iG G (xU v ad)) 139 (cS0.1 139) (cS0.2 139)) := rfl
theorem xk_140 (G : GT) (v ad : Nat → Nat) (T : va_W) : (xL G v (fun j => some (xU v ad (3 * j))) ++ T)[xG 140]? = some (xU v ad 140, cX (iG G (xU v ad)) 140 (cS0.1 140) (cS0.2 140)) := rfl
theorem xk_141 (G : GT) (v ad : Nat → Nat) (T : va_W) : (xL G v (fun j => some (xU v ad (3 * j))) ++ T)[xG 141]? = some (xU v ad 141, cX (iG G (xU v ad)) 141 (cS0.1 141) (cS0.2 141)) := rfl
theorem xk_142 (G : GT) (v ad : Nat → Nat) (T : va_W) : (xL G v (fun j => some (xU v ad (3 * j))) ++ T)[xG 142]? = some (xU v ad 142, cX (iG G (xU v ad)) 142 (cS0.1 142) (cS0.2 142)) := rfl
theorem x_key (G : GT) (v ad : Nat → Nat) : ∀ (k : Nat) (q : Nat × va_E), (cL (iG G (xU v ad)) cS0)[k]? = some q → (xL G v (fun j => some (xU v ad (3 * j))) ++ tW G ad 40)[xG k]? = some q := by
  intro k q hk
  obtain ⟨hk9, rfl⟩ := wl_get hk
  by_cases h120 : k < 120
  · unfold xG
    rw [if_pos h120, List.getElem?_append_right (by rw [xL_len]; omega), xL_len, show 23 + k - 23 = k by omega]
    have e9 : (tW G ad 40)[k]? = _ := wl_at (by omega)
    rw [e9]
    show some (ad k, cX (iG G ad) k (cS0.1 k) (cS0.2 k)) = some (xU v ad k, cX (iG G (xU v ad)) k (cS0.1 k) (cS0.2 k))
    rw [xU_lt v ad h120]
    obtain ⟨t9, ht | ht | ht⟩ : ∃ t, k = 3 * t ∨ k = 3 * t + 1 ∨ k = 3 * t + 2 := ⟨k / 3, by omega⟩ <;> subst ht
    · rw [cX_T _ (by omega), cX_T _ (by omega)]
      show _ = some (ad (3 * t9), Sum.inr (1, [_, Value.ref (xU v ad (3 * t9 + 1)), Value.ref (xU v ad (3 * t9 + 2))]))
      rw [xU_lt v ad (by omega), xU_lt v ad (by omega)]
      rfl
    · rw [cX_V _ (by omega), cX_V _ (by omega)]; rfl
    · rw [cX_M _ (by omega), cX_M _ (by omega)]; rfl
  · rcases (show k = 120 ∨ k = 121 ∨ k = 122 ∨ k = 123 ∨ k = 124 ∨ k = 125 ∨ k = 126 ∨ k = 127 ∨ k = 128 ∨ k = 129 ∨ k = 130 ∨ k = 131 ∨ k = 132 ∨ k = 133 ∨ k = 134 ∨ k = 135 ∨ k = 136 ∨ k = 137 ∨ k = 138 ∨ k = 139 ∨ k = 140 ∨ k = 141 ∨ k = 142 by omega) with rfl | rfl | rfl | rfl | rfl | rfl | rfl | rfl | rfl | rfl | rfl | rfl | rfl | rfl | rfl | rfl | rfl | rfl | rfl | rfl | rfl | rfl | rfl
    · exact xk_120 G v ad _
    · exact xk_121 G v ad _
    · exact xk_122 G v ad _
    · exact xk_123 G v ad _
    · exact xk_124 G v ad _
    · exact xk_125 G v ad _
    · exact xk_126 G v ad _
    · exact xk_127 G v ad _
    · exact xk_128 G v ad _
    · exact xk_129 G v ad _
    · exact xk_130 G v ad _
    · exact xk_131 G v ad _
    · exact xk_132 G v ad _
    · exact xk_133 G v ad _
    · exact xk_134 G v ad _
    · exact xk_135 G v ad _
    · exact xk_136 G v ad _
    · exact xk_137 G v ad _
    · exact xk_138 G v ad _
    · exact xk_139 G v ad _
    · exact xk_140 G v ad _
    · exact xk_141 G v ad _
    · exact xk_142 G v ad _
theorem x_fin {G : GT} {v ad : Nat → Nat} {A : Nat → Prop} {H : Heap} (hP : va_P (gD G) vwCl (xL G v (fun j => if j < 40 then some (ad (3 * j)) else none) ++ tW G ad 40) H) (hD : va_D A (xL G v (fun j => if j < 40 then some (ad (3 * j)) else none) ++ tW G ad 40)) : cW (iG G (xU v ad)) cS0 H ∧ va_D A (cL (iG G (xU v ad)) cS0) := by
  have he : va_at (gD G) vwCl (v 17, .inl (gC G 3, 40, .inr (.inr (.inr (.inr (fun j => some (xU v ad (3 * j)))))))) H := by
    have h9 : H[v 17]? = some (vp_cell (gC G 3) (40, .inr (.inr (.inr (.inr (fun j => if j < 40 then some (ad (3 * j)) else none)))))) := hP 17 _ (xL_t G v _ _)
    show H[v 17]? = some (vp_cell (gC G 3) (40, .inr (.inr (.inr (.inr (fun j => some (xU v ad (3 * j))))))))
    rw [h9, vp_cell_q, vp_cell_q]
    refine congrArg some (arrV_cg (fun j hj => ?_))
    rw [if_pos hj, xU_lt v ad (by omega)]
  have hP2 := va_P.set hP hD (xL_t G v _ _) he (fun _ _ => rfl)
  have hD2 := va_D.set (e := .inl (gC G 3, 40, .inr (.inr (.inr (.inr (fun j => some (xU v ad (3 * j)))))))) hD (xL_t G v _ _)
  rw [xL_s] at hP2 hD2
  exact ⟨va_P.by hP2 _ (x_key G v ad), va_D.by hD2 _ (x_key G v ad) (fun i j hi hj e9 => xG_inj i j (by simpa [wl] using hi) (by simpa [wl] using hj) e9)⟩
