/-! HOW THE REFERENCE'S CALLS END -/
def mT (S : SS) : SS := s1 S 0 0 (nI 0)
theorem mT_0 (S : SS) {k : Nat} (h : k ≠ 0) : (mT S).1 0 k = S.1 0 k := by unfold mT; rw [s1_eq]; exact pk_un h
theorem mT_1 (S : SS) {a : Nat} (h : a ≠ 0) : (mT S).1 a = S.1 a := s1_ne _ _ _ _ h
theorem mT_2 (S : SS) : (mT S).2 = S.2 := rfl
def mF (T : SS) (k : Nat) (D : SS) : SS := if k = 0 then D else s1 T 0 0 (nI k)
theorem mF_ok {T : SS} {c : Nat} {D : SS} (h : c = 0) : mF T c D = D := by rw [mF, if_pos h]
theorem mF_no {T : SS} {c k : Nat} {D : SS} (h : c = k) (hk : ¬ k = 0) : mF T c D = s1 T 0 0 (nI k) := by subst h; rw [mF, if_neg hk]
def mcOpen (S : SS) (rc : Nat) (x y : Int32) : Nat := if isP x = true then (if mHas S rc (cn x) y = true then 0 else 1) else 1
