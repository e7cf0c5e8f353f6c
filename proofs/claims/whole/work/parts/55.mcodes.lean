/-! HOW THE REFERENCE'S CALLS END -/
section ZA
variable {p : Program} {l : Launch} {e : Env} {R : Room} {s : State} {m : MethodId} {args : Array Value} {below : List Frame} {meth : Method} {c : Code} {H : Heap} {locs : List Loc} {cells slots : Nat} {Q : State → Prop}
variable {cc : ByteArray} {pc : Nat} {ls : Array Slot} {rest : List Value} {D : va_G} {cl : List vw_C} {tys : List (ClassId × FieldType)} {ws : va_W} {A : Nat → Prop} {H0 : Heap} {a : Nat}
theorem nv_zast (hexec : p.tables.exec = Jvm.exec) (hb : c.code = cc) (hK : va_K D cl tys s) (hP : va_P D cl ws H) (hD : va_D A ws) (hS : va_S A H0 H locs) (q0 t0 : Nat) {cA : ClassId} {n : Nat} {f : Nat → Int32} (ha : ws[q0]? = some (a, .inl (cA, n, .inl f))) (ht : tys[t0]? = some (cA, .boolean)) {i : Nat} {x : Int32} (hi : i < n) (hn : n < 2 ^ 31) (hdg : decode cc pc = .ok (.bastore, 1))
    (kk : ∀ (H1 : Heap) (locs1 : List Loc), va_P D cl (ws.set q0 (a, .inl (cA, n, .inl (upd f i (vp_nar .boolean x))))) H1 → va_S A H0 H1 locs1 → W p l e R s m args below meth c H1 locs1 cells slots Q (F0 m (pc + 1) ls rest)) : W p l e R s m args below meth c H locs cells slots Q (F0 m pc ls (.int x :: .int (nI i) :: .ref a :: rest)) :=
  va_zast hexec hb hK hP hD hS q0 t0 ha ht (vp_in_nI hi hn) hdg (fun H1 locs1 h1 _ h3 => kk H1 locs1 (by rw [nI_clamp (Nat.lt_trans hi hn)] at h1; exact h1) h3)
end ZA
theorem bI_vn (b : Bool) : vp_nar .boolean (bI b) = bI b := by cases b <;> rfl
def mT (S : SS) : SS := s1 S 0 0 (nI 0)
theorem mT_0 (S : SS) {k : Nat} (h : k ≠ 0) : (mT S).1 0 k = S.1 0 k := by unfold mT; rw [s1_eq]; exact pk_un h
theorem mT_1 (S : SS) {a : Nat} (h : a ≠ 0) : (mT S).1 a = S.1 a := s1_ne _ _ _ _ h
theorem mT_2 (S : SS) : (mT S).2 = S.2 := rfl
def mF (T : SS) (k : Nat) (D : SS) : SS := if k = 0 then D else s1 T 0 0 (nI k)
theorem mF_ok {T : SS} {c : Nat} {D : SS} (h : c = 0) : mF T c D = D := by rw [mF, if_pos h]
theorem mF_no {T : SS} {c k : Nat} {D : SS} (h : c = k) (hk : ¬ k = 0) : mF T c D = s1 T 0 0 (nI k) := by subst h; rw [mF, if_neg hk]
theorem no0 {c k : Nat} {P : Prop} (h : c = k) (hk : ¬ k = 0) : c = 0 → P := fun z => absurd (h.symm.trans z) hk
theorem inM_nI {j n : Nat} (h : j ≤ n) (hn : n + 1 < 2 ^ 31) : inM (nI j) (nI 0) (nI n) = true := by rw [inM_B _ hn]; exact inB_nI (by omega) hn
def mcOpen (S : SS) (rc : Nat) (x y : Int32) : Nat := if isP x = true then (if mHas S rc (cn x) y = true then 0 else 1) else 1
def mcAdd (S : SS) (nc : Nat) (x y z : Int32) : Nat :=
  if isP x = true then (if 0 ≤ S.1 11 (cn x) then (if mAl S (40 + cn x) y = true then (if S.1 2 (cn y) = 0 then 2 else if inB z 10 = true then
    (if naG S (40 + cn x) y z (-1) 15 (-1) < 0 then (if nc = 16 then 3 else 0) else 2) else 2) else 1) else 3) else 1
def mdAdd (S : SS) (nc i p k : Nat) (d : Bool) : SS :=
  s1 (s1 (s1 (s1 (s1 (s1 (s1 (s1 S 0 3 (nI (nc + 1))) 2 nc (vp_nar .boolean (bI d))) 3 nc (-1)) 4 (40 + i) ((s1 (s1 (s1 S 0 3 (nI (nc + 1))) 2 nc (vp_nar .boolean (bI d))) 3 nc (-1)).1 4 (40 + i) ||| (nI 1 <<< (nI nc &&& 31)))) 5 (16 * (40 + i) + nc) (nI p)) 6 (16 * (40 + i) + nc) (nI k)) 7 (16 * (40 + i) + nc) (nI 0)) 8 (16 * (40 + i) + nc) (nI 0)
def hdG (S : SS) (t : Nat) (y : Int32) : Nat → Nat → Bool → Bool
  | 0, _, h => h
  | k + 1, n, h => hdG S t y k (n + 1) (h || (ti (S.1 4 t) n && (S.1 5 (16 * t + n) == y)))
def mcDrop (S : SS) (x y : Int32) : Nat :=
  if isP x = true then (if 0 ≤ S.1 11 (cn x) then (if mAl S (40 + cn x) y = true then (if hdG S (40 + cn x) y 15 1 (decide (y = 0)) = true then 2 else 0) else 1) else 3) else 1
def mcMove (S : SS) (rk : Nat → Nat) (x y z w : Int32) : Nat :=
  if isP x = true then (if 0 ≤ S.1 11 (cn x) then (if mAl S (40 + cn x) y = true then (if mAl S (40 + cn x) z = true then
    (if y = 0 then 2 else if S.1 2 (cn z) = 0 then 2 else if inB w 10 = true then (if 0 ≤ naG S (40 + cn x) z w y 15 (-1) then 2 else if wiG S (40 + cn x) y (rk (cn z)) (cn z) = true then 2 else 0) else 2) else 1) else 1) else 3) else 1
def mcWrite (S : SS) (x y z : Int32) : Nat :=
  if isP x = true then (if 0 ≤ S.1 11 (cn x) then (if mAl S (40 + cn x) y = true then
    (if z = nI 1 ∨ z = nI 2 then (if y = 0 then 2 else if S.1 2 (cn y) = 0 then 0 else if z = nI 1 then 2 else 0) else 2) else 1) else 3) else 1
def mdWrite (S : SS) (i n : Nat) (z v : Int32) : SS := if z = nI 1 then s1 S 7 (16 * (40 + i) + n) v else s1 S 8 (16 * (40 + i) + n) v
def mcDecide (nc : Nat) (x y z w : Int32) : Nat :=
  if isP x = true then (if inB y nc = true then (if inB z 3 = true then (if inM w (-1) (nI 1) = true then (if y = 0 then 2 else 0) else 2) else 2) else 1) else 1
def mcBury (nc : Nat) (x y : Int32) : Nat := if isP x = true then (if inB y nc = true then (if y = 0 then 2 else 0) else 1) else 1
def mdBury (S : SS) (i n : Nat) (b : Bool) : SS := if b = true then s1 S 13 i (S.1 13 i ||| (nI 1 <<< (nI n &&& 31))) else s1 S 13 i (S.1 13 i &&& ((nI 1 <<< (nI n &&& 31)) ^^^ (-1)))
def mcConflict (c0 : Nat) (x y z : Int32) : Nat := if isP x = true then (if inB y c0 = true then (if inB z 2 = true then 0 else 2) else 2) else 1
def mcAbout (S : SS) (rc : Nat) (x y z : Int32) : Nat := if inB x rc = true then (if mAl S (cn x) y = true then (if inB z 6 = true then 0 else 2) else 1) else 1
def maAbout (S : SS) (r n w : Nat) : Int32 := match w with
  | 0 => S.1 5 (16 * r + n)
  | 1 => S.1 6 (16 * r + n)
  | 2 => S.1 7 (16 * r + n)
  | 3 => S.1 8 (16 * r + n)
  | 4 => S.1 3 n
  | _ => if S.1 2 n = 0 then nI 0 else nI 1
def mcMarks (S : SS) (rc : Nat) (x y z : Int32) : Nat := if inB x rc = true then (if mAl S (cn x) y = true then (if inB z 3 = true then (if y = 0 then 2 else 0) else 2) else 1) else 1
def mcNodes (S : SS) (rc : Nat) (x y : Int32) : Nat := if isP x = true then (if y = -1 then 0 else if mHas S rc (cn x) y = true then 0 else 1) else 1
def maNodes (S : SS) (x y : Int32) : Int64 := if y < 0 then (if 0 ≤ S.1 11 (cn x) then (S.1 4 (40 + cn x)).toInt64 else 0) else (S.1 4 (cn y)).toInt64
def mcCertify (S : SS) (rc : Nat) (x y z w : Int32) : Nat := if isP x = true then (if mHas S rc (cn x) y = true then (if inB z 4 = true then (if inB w 3 = true then 0 else 1) else 1) else 1) else 1
def mdTrust (S : SS) (i k : Nat) (b : Bool) : SS := if b = true then s1 S 15 i (S.1 15 i ||| (nI 1 <<< (nI k &&& 31))) else s1 S 15 i (S.1 15 i &&& ((nI 1 <<< (nI k &&& 31)) ^^^ (-1)))
def mxG (f g : Int64) : Nat → Nat → Int32 → SS → Int32 × SS
  | 0, _, n, S => (n, S)
  | m + 1, k, n, S => mxG f g m (k + 1)
      (n + (mbG ((S.2 14 k &&& f) &&& (S.2 14 (12 + k) ^^^ (-1))) 64 0 (nI 0) + mbG ((S.2 14 (12 + k) &&& g) &&& (S.2 14 k ^^^ (-1))) 64 0 (nI 0)))
      (s2 (s2 S 14 (12 + k) (S.2 14 (12 + k) ||| (S.2 14 k &&& f))) 14 k ((s2 S 14 (12 + k) (S.2 14 (12 + k) ||| (S.2 14 k &&& f))).2 14 k ||| (S.2 14 (12 + k) &&& g)))
def msnd (S : SS) (i b : Nat) : Int64 := mclG S (mmG S i b 4 0 0) 40 0 (mmG S i b 4 0 0)
def mdExch (S : SS) (b : Nat) : Int32 × SS :=
  mxG (msnd S 0 b) (msnd S 1 b) 12 0 (mbG (msnd S 0 b &&& (S.2 10 1 ^^^ (-1))) 64 0 (nI 0) + mbG (msnd S 1 b &&& (S.2 10 0 ^^^ (-1))) 64 0 (nI 0))
    (s2 (s2 S 10 1 (S.2 10 1 ||| msnd S 0 b)) 10 0 ((s2 S 10 1 (S.2 10 1 ||| msnd S 0 b)).2 10 0 ||| msnd S 1 b))
def mcExch (x : Int32) : Nat := if inB x 3 = true then 0 else 1
theorem inM_sub {x : Int32} {n : Nat} (hn : n < 2 ^ 30) : inM x (nI 0) (nI n - nI 1) = inB x n := by
  rcases Nat.eq_zero_or_pos n with h | h
  · subst h
    have e : nI 0 - nI 1 = -1 := by decide
    rw [e]
    have h0 : inB x 0 = false := by
      cases h : inB x 0 with
      | false => rfl
      | true => obtain ⟨j, hj, _⟩ := (inB_iff (by decide)).mp h; omega
    rw [h0]
    unfold inM
    split
    · rfl
    · rename_i h1
      rw [if_pos]
      have : (0 : Int) ≤ x.toInt := by
        have := Int32.not_lt.mp h1
        rw [Int32.le_iff_toInt_le] at this
        rwa [nI_toInt (by decide)] at this
      rw [Int32.lt_iff_toInt_lt]
      have e1 : (-1 : Int32).toInt = -1 := by decide
      omega
  · rw [pk_sub h, inM_B x (by omega), Nat.sub_add_cancel h]
