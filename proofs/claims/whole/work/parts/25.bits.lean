/-! BITS; starts of methods that change the world -/
theorem cQ_blind {G : GT} {S : SS} {av : List Value} {sz : Nat} : FrameBlind (va_Pc av (fun U => U.heap.size = sz ∧ cP G S U)) := fun _ _ _ _ q => ⟨q.1, q.2.1, q.2.2.1, cK.same rfl q.2.2.2⟩
theorem cQ_at {G : GT} {S : SS} {s : State} {H : Heap} {locs : List Loc} {av : List Value} (hW : cW G S H) (hK : cK G s s.heap) (hS : va_S (gF G s.heap.size) s.heap H locs) : ∀ U : State, U.heap = H → s.WarmedH U.vm → va_Pc av (fun U => U.heap.size = H.size ∧ cP G S U) av.toArray U :=
  fun U hU hw => ⟨rfl, by rw [hU], by rw [hU]; exact hW, by rw [hU]; exact cK.warm hw (hK.at hS)⟩
theorem mQ_blind {G : GT} {S : SS} {av : List Value} {sz : Nat} : FrameBlind (va_Pc av (fun U => U.heap.size = sz ∧ mP G S U)) := fun _ _ _ _ q => ⟨q.1, q.2.1, q.2.2.1, mK.same rfl q.2.2.2⟩
theorem mQ_at {G : GT} {S : SS} {s : State} {H : Heap} {locs : List Loc} {av : List Value} (hW : mW G S H) (hK : mK G s s.heap) (hS : va_S (gF G s.heap.size) s.heap H locs) : ∀ U : State, U.heap = H → s.WarmedH U.vm → va_Pc av (fun U => U.heap.size = H.size ∧ mP G S U) av.toArray U :=
  fun U hU hw => ⟨rfl, by rw [hU], by rw [hU]; exact hW, by rw [hU]; exact mK.warm hw (hK.at hS)⟩
def tb (x : Int64) (k : Nat) : Bool := x.toBitVec.getLsbD k
def ti (x : Int32) (k : Nat) : Bool := x.toBitVec.getLsbD k
theorem bv_and1 (y : BitVec 64) : y &&& 1#64 = 0#64 ↔ y.getLsbD 0 = false := by
  constructor
  · intro h
    have := congrArg (fun z => z.getLsbD 0) h
    simpa using this
  · intro h
    apply BitVec.eq_of_getLsbD_eq
    intro i hi
    by_cases h0 : i = 0
    · subst h0; rw [BitVec.getLsbD_and, h]; simp
    · simp [BitVec.getLsbD_and, BitVec.getLsbD_one, h0]
theorem bv_and1i (y : BitVec 32) : y &&& 1#32 = 0#32 ↔ y.getLsbD 0 = false := by
  constructor
  · intro h
    have := congrArg (fun z => z.getLsbD 0) h
    simpa using this
  · intro h
    apply BitVec.eq_of_getLsbD_eq
    intro i hi
    by_cases h0 : i = 0
    · subst h0; rw [BitVec.getLsbD_and, h]; simp
    · simp [BitVec.getLsbD_and, BitVec.getLsbD_one, h0]
theorem tb_shr (x : Int64) {k : Nat} (hk : k < 64) : ((x >>> ((nI k).toInt64 &&& 63)) &&& 1) = 0 ↔ tb x k = false := by
  rw [wb_c k hk, ← Int64.toBitVec_inj, Int64.toBitVec_and, Int64.toBitVec_shiftRight]
  show _ &&& 1#64 = 0#64 ↔ _
  rw [bv_and1, wb_tb, wb_sm k hk, BitVec.sshiftRight', BitVec.getLsbD_sshiftRight]
  have h1 : (BitVec.ofNat 64 k).toNat = k := by simp; omega
  rw [h1]
  simp [tb, hk]
theorem ti_l (x : Int32) {k : Nat} (hk : k < 32) : tb x.toInt64 k = ti x k := by
  unfold tb ti
  rw [Int32.toBitVec_toInt64, BitVec.getLsbD_signExtend]
  simp [hk, show k < 64 by omega]
