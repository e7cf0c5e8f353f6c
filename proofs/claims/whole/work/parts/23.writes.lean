/-! WRITES, by kind of cell (printed by wip/whole/mk23.py) -/
theorem cp_T_0 {G : GT} {S : SS} {t : Nat} (ht : t < 43) {H : Heap} {x : Int32} (h : va_P (gD G) vwCl ((cL G S).set (3 * t) (gA G (3 * t), .inr (1, ([.int (S.1 (3 * t) 0), .ref (gA G (3 * t + 1)), .ref (gA G (3 * t + 2))] : List Value).set 0 (.int x)))) H) : cW G (s1 S (3 * t) 0 x) H := by
  unfold cW
  rw [← cL_s1 G S (by omega) 0 x (cX_T G ht _ _)]
  exact h
theorem cp_P_0 {G : GT} {S : SS} {i : Nat} (hi : i < 2) {H : Heap} {x : Int64} (h : va_P (gD G) vwCl ((cL G S).set (129 + 5 * i) (gA G (129 + 5 * i), .inr (0, ([.long (S.2 (129 + 5 * i) 0), .ref (gA G (130 + 5 * i)), .int (S.1 (129 + 5 * i) 2), .ref (gA G (3 * (41 + i))), .int (S.1 (129 + 5 * i) 4), .ref (gA G (131 + 5 * i)), .int (S.1 (129 + 5 * i) 6), .ref (gA G (132 + 5 * i)), .ref (gA G (133 + 5 * i)), .int (S.1 (129 + 5 * i) 9)] : List Value).set 0 (.long x)))) H) : cW G (s2 S (129 + 5 * i) 0 x) H := by
  unfold cW
  rw [← cL_s2 G S (by omega) 0 x (cX_P G hi _ _)]
  exact h
theorem cp_P_2 {G : GT} {S : SS} {i : Nat} (hi : i < 2) {H : Heap} {x : Int32} (h : va_P (gD G) vwCl ((cL G S).set (129 + 5 * i) (gA G (129 + 5 * i), .inr (0, ([.long (S.2 (129 + 5 * i) 0), .ref (gA G (130 + 5 * i)), .int (S.1 (129 + 5 * i) 2), .ref (gA G (3 * (41 + i))), .int (S.1 (129 + 5 * i) 4), .ref (gA G (131 + 5 * i)), .int (S.1 (129 + 5 * i) 6), .ref (gA G (132 + 5 * i)), .ref (gA G (133 + 5 * i)), .int (S.1 (129 + 5 * i) 9)] : List Value).set 2 (.int x)))) H) : cW G (s1 S (129 + 5 * i) 2 x) H := by
  unfold cW
  rw [← cL_s1 G S (by omega) 2 x (cX_P G hi _ _)]
  exact h
theorem cp_P_4 {G : GT} {S : SS} {i : Nat} (hi : i < 2) {H : Heap} {x : Int32} (h : va_P (gD G) vwCl ((cL G S).set (129 + 5 * i) (gA G (129 + 5 * i), .inr (0, ([.long (S.2 (129 + 5 * i) 0), .ref (gA G (130 + 5 * i)), .int (S.1 (129 + 5 * i) 2), .ref (gA G (3 * (41 + i))), .int (S.1 (129 + 5 * i) 4), .ref (gA G (131 + 5 * i)), .int (S.1 (129 + 5 * i) 6), .ref (gA G (132 + 5 * i)), .ref (gA G (133 + 5 * i)), .int (S.1 (129 + 5 * i) 9)] : List Value).set 4 (.int x)))) H) : cW G (s1 S (129 + 5 * i) 4 x) H := by
  unfold cW
  rw [← cL_s1 G S (by omega) 4 x (cX_P G hi _ _)]
  exact h
theorem cp_P_6 {G : GT} {S : SS} {i : Nat} (hi : i < 2) {H : Heap} {x : Int32} (h : va_P (gD G) vwCl ((cL G S).set (129 + 5 * i) (gA G (129 + 5 * i), .inr (0, ([.long (S.2 (129 + 5 * i) 0), .ref (gA G (130 + 5 * i)), .int (S.1 (129 + 5 * i) 2), .ref (gA G (3 * (41 + i))), .int (S.1 (129 + 5 * i) 4), .ref (gA G (131 + 5 * i)), .int (S.1 (129 + 5 * i) 6), .ref (gA G (132 + 5 * i)), .ref (gA G (133 + 5 * i)), .int (S.1 (129 + 5 * i) 9)] : List Value).set 6 (.int x)))) H) : cW G (s1 S (129 + 5 * i) 6 x) H := by
  unfold cW
  rw [← cL_s1 G S (by omega) 6 x (cX_P G hi _ _)]
  exact h
theorem cp_P_9 {G : GT} {S : SS} {i : Nat} (hi : i < 2) {H : Heap} {x : Int32} (h : va_P (gD G) vwCl ((cL G S).set (129 + 5 * i) (gA G (129 + 5 * i), .inr (0, ([.long (S.2 (129 + 5 * i) 0), .ref (gA G (130 + 5 * i)), .int (S.1 (129 + 5 * i) 2), .ref (gA G (3 * (41 + i))), .int (S.1 (129 + 5 * i) 4), .ref (gA G (131 + 5 * i)), .int (S.1 (129 + 5 * i) 6), .ref (gA G (132 + 5 * i)), .ref (gA G (133 + 5 * i)), .int (S.1 (129 + 5 * i) 9)] : List Value).set 9 (.int x)))) H) : cW G (s1 S (129 + 5 * i) 9 x) H := by
  unfold cW
  rw [← cL_s1 G S (by omega) 9 x (cX_P G hi _ _)]
  exact h
theorem cp_O_4 {G : GT} {S : SS}  {H : Heap} {x : Int32} (h : va_P (gD G) vwCl ((cL G S).set (139) (gA G (139), .inr (2, ([.ref (gA G 129), .ref (gA G 134), .ref (gA G 140), .ref (gA G 141), .int (S.1 139 4), .ref (gA G 142), .int (S.1 139 6), .int (S.1 139 7), .ref (gA G 120), .long (S.2 139 9)] : List Value).set 4 (.int x)))) H) : cW G (s1 S (139) 4 x) H := by
  unfold cW
  rw [← cL_s1 G S (by omega) 4 x (rfl)]
  exact h
theorem cp_O_6 {G : GT} {S : SS}  {H : Heap} {x : Int32} (h : va_P (gD G) vwCl ((cL G S).set (139) (gA G (139), .inr (2, ([.ref (gA G 129), .ref (gA G 134), .ref (gA G 140), .ref (gA G 141), .int (S.1 139 4), .ref (gA G 142), .int (S.1 139 6), .int (S.1 139 7), .ref (gA G 120), .long (S.2 139 9)] : List Value).set 6 (.int x)))) H) : cW G (s1 S (139) 6 x) H := by
  unfold cW
  rw [← cL_s1 G S (by omega) 6 x (rfl)]
  exact h
theorem cp_O_7 {G : GT} {S : SS}  {H : Heap} {x : Int32} (h : va_P (gD G) vwCl ((cL G S).set (139) (gA G (139), .inr (2, ([.ref (gA G 129), .ref (gA G 134), .ref (gA G 140), .ref (gA G 141), .int (S.1 139 4), .ref (gA G 142), .int (S.1 139 6), .int (S.1 139 7), .ref (gA G 120), .long (S.2 139 9)] : List Value).set 7 (.int x)))) H) : cW G (s1 S (139) 7 x) H := by
  unfold cW
  rw [← cL_s1 G S (by omega) 7 x (rfl)]
  exact h
theorem cp_O_9 {G : GT} {S : SS}  {H : Heap} {x : Int64} (h : va_P (gD G) vwCl ((cL G S).set (139) (gA G (139), .inr (2, ([.ref (gA G 129), .ref (gA G 134), .ref (gA G 140), .ref (gA G 141), .int (S.1 139 4), .ref (gA G 142), .int (S.1 139 6), .int (S.1 139 7), .ref (gA G 120), .long (S.2 139 9)] : List Value).set 9 (.long x)))) H) : cW G (s2 S (139) 9 x) H := by
  unfold cW
  rw [← cL_s2 G S (by omega) 9 x (rfl)]
  exact h
theorem cp_V {G : GT} {S : SS} {t : Nat} (ht : t < 43) {H : Heap} {j : Nat} {x : Int32} (h : va_P (gD G) vwCl ((cL G S).set (3 * t + 1) (gA G (3 * t + 1), .inl (gC G 0, 48, .inl (upd (S.1 (3 * t + 1)) j x)))) H) : cW G (s1 S (3 * t + 1) j x) H := by
  unfold cW
  rw [← cL_s1 G S (by omega) j x (cX_V G ht _ _)]
  exact h
theorem cp_M {G : GT} {S : SS} {t : Nat} (ht : t < 43) {H : Heap} {j : Nat} {x : Int64} (h : va_P (gD G) vwCl ((cL G S).set (3 * t + 2) (gA G (3 * t + 2), .inl (gC G 1, 48, .inr (.inl (vp_updL (S.2 (3 * t + 2)) j x))))) H) : cW G (s2 S (3 * t + 2) j x) H := by
  unfold cW
  rw [← cL_s2 G S (by omega) j x (cX_M G ht _ _)]
  exact h
theorem cp_C {G : GT} {S : SS} {i : Nat} (hi : i < 2) {H : Heap} {j : Nat} {x : Int64} (h : va_P (gD G) vwCl ((cL G S).set (130 + 5 * i) (gA G (130 + 5 * i), .inl (gC G 1, 12, .inr (.inl (vp_updL (S.2 (130 + 5 * i)) j x))))) H) : cW G (s2 S (130 + 5 * i) j x) H := by
  unfold cW
  rw [← cL_s2 G S (by omega) j x (cX_C G hi _ _)]
  exact h
theorem cp_D {G : GT} {S : SS} {i : Nat} (hi : i < 2) {H : Heap} {j : Nat} {x : Int32} (h : va_P (gD G) vwCl ((cL G S).set (131 + 5 * i) (gA G (131 + 5 * i), .inl (gC G 0, 48, .inl (upd (S.1 (131 + 5 * i)) j x)))) H) : cW G (s1 S (131 + 5 * i) j x) H := by
  unfold cW
  rw [← cL_s1 G S (by omega) j x (cX_D G hi _ _)]
  exact h
theorem cp_N {G : GT} {S : SS} {i : Nat} (hi : i < 2) {H : Heap} {j : Nat} {x : Int32} (h : va_P (gD G) vwCl ((cL G S).set (132 + 5 * i) (gA G (132 + 5 * i), .inl (gC G 0, 48, .inl (upd (S.1 (132 + 5 * i)) j x)))) H) : cW G (s1 S (132 + 5 * i) j x) H := by
  unfold cW
  rw [← cL_s1 G S (by omega) j x (cX_N G hi _ _)]
  exact h
theorem cp_K {G : GT} {S : SS} {i : Nat} (hi : i < 2) {H : Heap} {j : Nat} {x : Int32} (h : va_P (gD G) vwCl ((cL G S).set (133 + 5 * i) (gA G (133 + 5 * i), .inl (gC G 0, 48, .inl (upd (S.1 (133 + 5 * i)) j x)))) H) : cW G (s1 S (133 + 5 * i) j x) H := by
  unfold cW
  rw [← cL_s1 G S (by omega) j x (cX_K G hi _ _)]
  exact h
theorem cp_A {G : GT} {S : SS}  {H : Heap} {j : Nat} {x : Int64} (h : va_P (gD G) vwCl ((cL G S).set (141) (gA G (141), .inl (gC G 1, 40, .inr (.inl (vp_updL (S.2 (141)) j x))))) H) : cW G (s2 S (141) j x) H := by
  unfold cW
  rw [← cL_s2 G S (by omega) j x (rfl)]
  exact h
theorem cp_B {G : GT} {S : SS}  {H : Heap} {j : Nat} {x : Int32} (h : va_P (gD G) vwCl ((cL G S).set (142) (gA G (142), .inl (gC G 0, 16, .inl (upd (S.1 (142)) j x)))) H) : cW G (s1 S (142) j x) H := by
  unfold cW
  rw [← cL_s1 G S (by omega) j x (rfl)]
  exact h
theorem mw_0 {G : GT} {S : SS} : (mL G S)[0]? = some (gA G 0, .inr (3, [.int (S.1 0 0), .int (S.1 0 1), .ref (gA G 1), .int (S.1 0 3), .ref (gA G 2), .ref (gA G 3), .ref (gA G 4), .ref (gA G 5), .ref (gA G 6), .ref (gA G 7), .ref (gA G 8), .ref (gA G 9), .ref (gA G 10), .ref (gA G 11), .ref (gA G 12), .ref (gA G 13), .ref (gA G 14), .ref (gA G 15), .ref (gA G 16), .ref (gA G 17), .ref (gA G 18), .ref (gA G 19)])) := by
  rw [wl_at (by omega)]; rfl
theorem mp_0_0 {G : GT} {S : SS} {H : Heap} {x : Int32} (h : va_P (gD G) vwCl ((mL G S).set 0 (gA G 0, .inr (3, ([.int (S.1 0 0), .int (S.1 0 1), .ref (gA G 1), .int (S.1 0 3), .ref (gA G 2), .ref (gA G 3), .ref (gA G 4), .ref (gA G 5), .ref (gA G 6), .ref (gA G 7), .ref (gA G 8), .ref (gA G 9), .ref (gA G 10), .ref (gA G 11), .ref (gA G 12), .ref (gA G 13), .ref (gA G 14), .ref (gA G 15), .ref (gA G 16), .ref (gA G 17), .ref (gA G 18), .ref (gA G 19)] : List Value).set 0 (.int x)))) H) : mW G (s1 S 0 0 x) H := by
  unfold mW
  rw [← mL_s1 G S (by omega) 0 x rfl]
  exact h
theorem mp_0_1 {G : GT} {S : SS} {H : Heap} {x : Int32} (h : va_P (gD G) vwCl ((mL G S).set 0 (gA G 0, .inr (3, ([.int (S.1 0 0), .int (S.1 0 1), .ref (gA G 1), .int (S.1 0 3), .ref (gA G 2), .ref (gA G 3), .ref (gA G 4), .ref (gA G 5), .ref (gA G 6), .ref (gA G 7), .ref (gA G 8), .ref (gA G 9), .ref (gA G 10), .ref (gA G 11), .ref (gA G 12), .ref (gA G 13), .ref (gA G 14), .ref (gA G 15), .ref (gA G 16), .ref (gA G 17), .ref (gA G 18), .ref (gA G 19)] : List Value).set 1 (.int x)))) H) : mW G (s1 S 0 1 x) H := by
  unfold mW
  rw [← mL_s1 G S (by omega) 1 x rfl]
  exact h
theorem mp_0_3 {G : GT} {S : SS} {H : Heap} {x : Int32} (h : va_P (gD G) vwCl ((mL G S).set 0 (gA G 0, .inr (3, ([.int (S.1 0 0), .int (S.1 0 1), .ref (gA G 1), .int (S.1 0 3), .ref (gA G 2), .ref (gA G 3), .ref (gA G 4), .ref (gA G 5), .ref (gA G 6), .ref (gA G 7), .ref (gA G 8), .ref (gA G 9), .ref (gA G 10), .ref (gA G 11), .ref (gA G 12), .ref (gA G 13), .ref (gA G 14), .ref (gA G 15), .ref (gA G 16), .ref (gA G 17), .ref (gA G 18), .ref (gA G 19)] : List Value).set 3 (.int x)))) H) : mW G (s1 S 0 3 x) H := by
  unfold mW
  rw [← mL_s1 G S (by omega) 3 x rfl]
  exact h
theorem mw_1 {G : GT} {S : SS} : (mL G S)[1]? = some (gA G 1, .inl (gC G 1, 40, .inr (.inl (S.2 1)))) := by
  rw [wl_at (by omega)]; rfl
theorem mp_1 {G : GT} {S : SS} {H : Heap} {j : Nat} {x : Int64} (h : va_P (gD G) vwCl ((mL G S).set 1 (gA G 1, .inl (gC G 1, 40, .inr (.inl (vp_updL (S.2 1) j x))))) H) : mW G (s2 S 1 j x) H := by
  unfold mW
  rw [← mL_s2 G S (by omega) j x rfl]
  exact h
theorem mw_2 {G : GT} {S : SS} : (mL G S)[2]? = some (gA G 2, .inl (gC G 2, 16, .inl (S.1 2))) := by
  rw [wl_at (by omega)]; rfl
theorem mp_2 {G : GT} {S : SS} {H : Heap} {j : Nat} {x : Int32} (h : va_P (gD G) vwCl ((mL G S).set 2 (gA G 2, .inl (gC G 2, 16, .inl (upd (S.1 2) j x)))) H) : mW G (s1 S 2 j x) H := by
  unfold mW
  rw [← mL_s1 G S (by omega) j x rfl]
  exact h
theorem mw_3 {G : GT} {S : SS} : (mL G S)[3]? = some (gA G 3, .inl (gC G 0, 16, .inl (S.1 3))) := by
  rw [wl_at (by omega)]; rfl
theorem mp_3 {G : GT} {S : SS} {H : Heap} {j : Nat} {x : Int32} (h : va_P (gD G) vwCl ((mL G S).set 3 (gA G 3, .inl (gC G 0, 16, .inl (upd (S.1 3) j x)))) H) : mW G (s1 S 3 j x) H := by
  unfold mW
  rw [← mL_s1 G S (by omega) j x rfl]
  exact h
theorem mw_4 {G : GT} {S : SS} : (mL G S)[4]? = some (gA G 4, .inl (gC G 0, 43, .inl (S.1 4))) := by
  rw [wl_at (by omega)]; rfl
theorem mp_4 {G : GT} {S : SS} {H : Heap} {j : Nat} {x : Int32} (h : va_P (gD G) vwCl ((mL G S).set 4 (gA G 4, .inl (gC G 0, 43, .inl (upd (S.1 4) j x)))) H) : mW G (s1 S 4 j x) H := by
  unfold mW
  rw [← mL_s1 G S (by omega) j x rfl]
  exact h
theorem mw_5 {G : GT} {S : SS} : (mL G S)[5]? = some (gA G 5, .inl (gC G 0, 688, .inl (S.1 5))) := by
  rw [wl_at (by omega)]; rfl
theorem mp_5 {G : GT} {S : SS} {H : Heap} {j : Nat} {x : Int32} (h : va_P (gD G) vwCl ((mL G S).set 5 (gA G 5, .inl (gC G 0, 688, .inl (upd (S.1 5) j x)))) H) : mW G (s1 S 5 j x) H := by
  unfold mW
  rw [← mL_s1 G S (by omega) j x rfl]
  exact h
theorem mw_6 {G : GT} {S : SS} : (mL G S)[6]? = some (gA G 6, .inl (gC G 0, 688, .inl (S.1 6))) := by
  rw [wl_at (by omega)]; rfl
theorem mp_6 {G : GT} {S : SS} {H : Heap} {j : Nat} {x : Int32} (h : va_P (gD G) vwCl ((mL G S).set 6 (gA G 6, .inl (gC G 0, 688, .inl (upd (S.1 6) j x)))) H) : mW G (s1 S 6 j x) H := by
  unfold mW
  rw [← mL_s1 G S (by omega) j x rfl]
  exact h
theorem mw_7 {G : GT} {S : SS} : (mL G S)[7]? = some (gA G 7, .inl (gC G 0, 688, .inl (S.1 7))) := by
  rw [wl_at (by omega)]; rfl
theorem mp_7 {G : GT} {S : SS} {H : Heap} {j : Nat} {x : Int32} (h : va_P (gD G) vwCl ((mL G S).set 7 (gA G 7, .inl (gC G 0, 688, .inl (upd (S.1 7) j x)))) H) : mW G (s1 S 7 j x) H := by
  unfold mW
  rw [← mL_s1 G S (by omega) j x rfl]
  exact h
theorem mw_8 {G : GT} {S : SS} : (mL G S)[8]? = some (gA G 8, .inl (gC G 0, 688, .inl (S.1 8))) := by
  rw [wl_at (by omega)]; rfl
theorem mp_8 {G : GT} {S : SS} {H : Heap} {j : Nat} {x : Int32} (h : va_P (gD G) vwCl ((mL G S).set 8 (gA G 8, .inl (gC G 0, 688, .inl (upd (S.1 8) j x)))) H) : mW G (s1 S 8 j x) H := by
  unfold mW
  rw [← mL_s1 G S (by omega) j x rfl]
  exact h
theorem mw_9 {G : GT} {S : SS} : (mL G S)[9]? = some (gA G 9, .inl (gC G 1, 2064, .inr (.inl (S.2 9)))) := by
  rw [wl_at (by omega)]; rfl
theorem mp_9 {G : GT} {S : SS} {H : Heap} {j : Nat} {x : Int64} (h : va_P (gD G) vwCl ((mL G S).set 9 (gA G 9, .inl (gC G 1, 2064, .inr (.inl (vp_updL (S.2 9) j x))))) H) : mW G (s2 S 9 j x) H := by
  unfold mW
  rw [← mL_s2 G S (by omega) j x rfl]
  exact h
theorem mw_10 {G : GT} {S : SS} : (mL G S)[10]? = some (gA G 10, .inl (gC G 1, 2, .inr (.inl (S.2 10)))) := by
  rw [wl_at (by omega)]; rfl
theorem mp_10 {G : GT} {S : SS} {H : Heap} {j : Nat} {x : Int64} (h : va_P (gD G) vwCl ((mL G S).set 10 (gA G 10, .inl (gC G 1, 2, .inr (.inl (vp_updL (S.2 10) j x))))) H) : mW G (s2 S 10 j x) H := by
  unfold mW
  rw [← mL_s2 G S (by omega) j x rfl]
  exact h
theorem mw_11 {G : GT} {S : SS} : (mL G S)[11]? = some (gA G 11, .inl (gC G 0, 2, .inl (S.1 11))) := by
  rw [wl_at (by omega)]; rfl
theorem mp_11 {G : GT} {S : SS} {H : Heap} {j : Nat} {x : Int32} (h : va_P (gD G) vwCl ((mL G S).set 11 (gA G 11, .inl (gC G 0, 2, .inl (upd (S.1 11) j x)))) H) : mW G (s1 S 11 j x) H := by
  unfold mW
  rw [← mL_s1 G S (by omega) j x rfl]
  exact h
theorem mw_12 {G : GT} {S : SS} : (mL G S)[12]? = some (gA G 12, .inl (gC G 0, 96, .inl (S.1 12))) := by
  rw [wl_at (by omega)]; rfl
theorem mp_12 {G : GT} {S : SS} {H : Heap} {j : Nat} {x : Int32} (h : va_P (gD G) vwCl ((mL G S).set 12 (gA G 12, .inl (gC G 0, 96, .inl (upd (S.1 12) j x)))) H) : mW G (s1 S 12 j x) H := by
  unfold mW
  rw [← mL_s1 G S (by omega) j x rfl]
  exact h
theorem mw_13 {G : GT} {S : SS} : (mL G S)[13]? = some (gA G 13, .inl (gC G 0, 2, .inl (S.1 13))) := by
  rw [wl_at (by omega)]; rfl
theorem mp_13 {G : GT} {S : SS} {H : Heap} {j : Nat} {x : Int32} (h : va_P (gD G) vwCl ((mL G S).set 13 (gA G 13, .inl (gC G 0, 2, .inl (upd (S.1 13) j x)))) H) : mW G (s1 S 13 j x) H := by
  unfold mW
  rw [← mL_s1 G S (by omega) j x rfl]
  exact h
theorem mw_14 {G : GT} {S : SS} : (mL G S)[14]? = some (gA G 14, .inl (gC G 1, 24, .inr (.inl (S.2 14)))) := by
  rw [wl_at (by omega)]; rfl
theorem mp_14 {G : GT} {S : SS} {H : Heap} {j : Nat} {x : Int64} (h : va_P (gD G) vwCl ((mL G S).set 14 (gA G 14, .inl (gC G 1, 24, .inr (.inl (vp_updL (S.2 14) j x))))) H) : mW G (s2 S 14 j x) H := by
  unfold mW
  rw [← mL_s2 G S (by omega) j x rfl]
  exact h
theorem mw_15 {G : GT} {S : SS} : (mL G S)[15]? = some (gA G 15, .inl (gC G 0, 2, .inl (S.1 15))) := by
  rw [wl_at (by omega)]; rfl
theorem mp_15 {G : GT} {S : SS} {H : Heap} {j : Nat} {x : Int32} (h : va_P (gD G) vwCl ((mL G S).set 15 (gA G 15, .inl (gC G 0, 2, .inl (upd (S.1 15) j x)))) H) : mW G (s1 S 15 j x) H := by
  unfold mW
  rw [← mL_s1 G S (by omega) j x rfl]
  exact h
theorem mw_16 {G : GT} {S : SS} : (mL G S)[16]? = some (gA G 16, .inl (gC G 0, 2, .inl (S.1 16))) := by
  rw [wl_at (by omega)]; rfl
theorem mp_16 {G : GT} {S : SS} {H : Heap} {j : Nat} {x : Int32} (h : va_P (gD G) vwCl ((mL G S).set 16 (gA G 16, .inl (gC G 0, 2, .inl (upd (S.1 16) j x)))) H) : mW G (s1 S 16 j x) H := by
  unfold mW
  rw [← mL_s1 G S (by omega) j x rfl]
  exact h
theorem mw_17 {G : GT} {S : SS} : (mL G S)[17]? = some (gA G 17, .inl (gC G 0, 128, .inl (S.1 17))) := by
  rw [wl_at (by omega)]; rfl
theorem mp_17 {G : GT} {S : SS} {H : Heap} {j : Nat} {x : Int32} (h : va_P (gD G) vwCl ((mL G S).set 17 (gA G 17, .inl (gC G 0, 128, .inl (upd (S.1 17) j x)))) H) : mW G (s1 S 17 j x) H := by
  unfold mW
  rw [← mL_s1 G S (by omega) j x rfl]
  exact h
theorem mw_18 {G : GT} {S : SS} : (mL G S)[18]? = some (gA G 18, .inl (gC G 0, 128, .inl (S.1 18))) := by
  rw [wl_at (by omega)]; rfl
theorem mp_18 {G : GT} {S : SS} {H : Heap} {j : Nat} {x : Int32} (h : va_P (gD G) vwCl ((mL G S).set 18 (gA G 18, .inl (gC G 0, 128, .inl (upd (S.1 18) j x)))) H) : mW G (s1 S 18 j x) H := by
  unfold mW
  rw [← mL_s1 G S (by omega) j x rfl]
  exact h
theorem mw_19 {G : GT} {S : SS} : (mL G S)[19]? = some (gA G 19, .inl (gC G 0, 16, .inl (S.1 19))) := by
  rw [wl_at (by omega)]; rfl
theorem mp_19 {G : GT} {S : SS} {H : Heap} {j : Nat} {x : Int32} (h : va_P (gD G) vwCl ((mL G S).set 19 (gA G 19, .inl (gC G 0, 16, .inl (upd (S.1 19) j x)))) H) : mW G (s1 S 19 j x) H := by
  unfold mW
  rw [← mL_s1 G S (by omega) j x rfl]
  exact h
