/-! Long.bitCount counts the bits -/
theorem and_split (a b A B : Nat) (ha : a < 256) (hb : b < 256) : (a + 256 * A) &&& (b + 256 * B) = (a &&& b) + 256 * (A &&& B) := by
  have h1 := Nat.and_mod_two_pow (a := a + 256 * A) (b := b + 256 * B) (n := 8)
  have h2 := Nat.and_div_two_pow (a := a + 256 * A) (b := b + 256 * B) (n := 8)
  rw [show (2 : Nat) ^ 8 = 256 from rfl] at h1 h2
  rw [show (a + 256 * A) % 256 = a by omega, show (b + 256 * B) % 256 = b by omega] at h1
  rw [show (a + 256 * A) / 256 = A by omega, show (b + 256 * B) / 256 = B by omega] at h2
  omega
/-- a byte again and again -/
def rep (m : Nat) : Nat → Nat
  | 0 => 0
  | n + 1 => m + 256 * rep m n
/-- byte by byte -/
def byt (g : Nat → Nat) : Nat → Nat → Nat
  | 0, _ => 0
  | n + 1, X => g (X % 256) + 256 * byt g n (X / 256)
theorem byt_lt {g : Nat → Nat} {c : Nat} (hc : c < 256) (hg : ∀ b, b < 256 → g b ≤ c) : ∀ (n X : Nat), byt g n X < 256 ^ n
  | 0, X => by rw [byt]; decide
  | n + 1, X => by
    rw [byt]
    have h1 := hg (X % 256) (Nat.mod_lt _ (by decide))
    have h2 := byt_lt hc hg n (X / 256)
    rw [Nat.pow_succ]
    omega
theorem byt_cmp {g f : Nat → Nat} (hg : ∀ b, b < 256 → g b < 256) : ∀ (n X : Nat), byt f n (byt g n X) = byt (fun b => f (g b)) n X
  | 0, X => rfl
  | n + 1, X => by
    have h := hg (X % 256) (Nat.mod_lt _ (by decide))
    rw [byt, byt, byt, show (g (X % 256) + 256 * byt g n (X / 256)) % 256 = g (X % 256) by omega, show (g (X % 256) + 256 * byt g n (X / 256)) / 256 = byt g n (X / 256) by omega, byt_cmp hg n]
/-- shifted and masked, byte by byte: what comes over from the next byte falls under the mask -/
theorem byt_sh (s m : Nat) (hs : s ≤ 8) (hm : m < 256) (h : ∀ b c, b < 256 → c < 256 → ((b + 256 * c) / 2 ^ s % 256) &&& m = (b / 2 ^ s) &&& m) : ∀ (n X : Nat), (X / 2 ^ s) &&& rep m n = byt (fun b => (b / 2 ^ s) &&& m) n X
  | 0, X => by rw [rep, byt, Nat.and_zero]
  | n + 1, X => by
    rw [rep, byt, ← byt_sh s m hs hm h n (X / 256)]
    have e : X / 2 ^ s = (X / 2 ^ s) % 256 + 256 * ((X / 2 ^ s) / 256) := by omega
    rw [show (X / 2 ^ s) &&& (m + 256 * rep m n) = ((X / 2 ^ s) % 256 + 256 * ((X / 2 ^ s) / 256)) &&& (m + 256 * rep m n) from by rw [← e], and_split _ _ _ _ (Nat.mod_lt _ (by decide)) hm]
    have e2 : X / 2 ^ s / 256 = X / 256 / 2 ^ s := by rw [Nat.div_div_eq_div_mul, Nat.div_div_eq_div_mul, Nat.mul_comm]
    rw [e2]
    congr 1
    have h3 := h (X % 256) (X / 256 % 256) (Nat.mod_lt _ (by decide)) (Nat.mod_lt _ (by decide))
    rw [← h3]
    congr 1
    have e3 : X = (X % 256 + 256 * (X / 256 % 256)) + 65536 * (X / 65536) := by omega
    have : ∀ s : Fin 9, X / 2 ^ s.val % 256 = (X % 256 + 256 * (X / 256 % 256)) / 2 ^ s.val % 256 := by
      intro s
      rcases s with ⟨s, hs⟩
      rcases (show s = 0 ∨ s = 1 ∨ s = 2 ∨ s = 3 ∨ s = 4 ∨ s = 5 ∨ s = 6 ∨ s = 7 ∨ s = 8 by omega) with rfl | rfl | rfl | rfl | rfl | rfl | rfl | rfl | rfl <;> simp only [] <;> omega
    exact this ⟨s, by omega⟩
theorem byt_id : ∀ (n X : Nat), X < 256 ^ n → byt (fun b => b) n X = X
  | 0, X, h => by rw [byt]; rw [Nat.pow_zero] at h; omega
  | n + 1, X, h => by rw [byt, byt_id n (X / 256) (by rw [Nat.pow_succ] at h; omega)]; omega
theorem byt_add (f g : Nat → Nat) : ∀ (n X : Nat), byt f n X + byt g n X = byt (fun b => f b + g b) n X
  | 0, _ => rfl
  | n + 1, X => by rw [byt, byt, byt, ← byt_add f g n]; omega
theorem byt_le {f g : Nat → Nat} (h : ∀ b, b < 256 → g b ≤ f b) : ∀ (n X : Nat), byt g n X ≤ byt f n X
  | 0, _ => Nat.le_refl _
  | n + 1, X => by
    rw [byt, byt]
    have h1 := h (X % 256) (Nat.mod_lt _ (by decide))
    have h2 := byt_le h n (X / 256)
    omega
theorem byt_sub {f g : Nat → Nat} (h : ∀ b, b < 256 → g b ≤ f b) : ∀ (n X : Nat), byt f n X - byt g n X = byt (fun b => f b - g b) n X
  | 0, _ => rfl
  | n + 1, X => by
    rw [byt, byt, byt, ← byt_sub h n]
    have h1 := h (X % 256) (Nat.mod_lt _ (by decide))
    have h2 := byt_le h n (X / 256)
    omega
theorem byt_ext {f g : Nat → Nat} (h : ∀ b, b < 256 → f b = g b) : ∀ (n X : Nat), byt f n X = byt g n X
  | 0, _ => rfl
  | n + 1, X => by rw [byt, byt, h _ (Nat.mod_lt _ (by decide)), byt_ext h n]
theorem byt_16 {g : Nat → Nat} (h : ∀ b, b < 256 → g b ≤ 68 ∧ g b % 16 ≤ 4) : ∀ (n X : Nat), (byt g n X + byt g n X / 16) &&& rep 15 n = byt (fun b => (g b + g b / 16) % 16) n X
  | 0, X => by rw [rep, byt, Nat.and_zero]; rfl
  | n + 1, X => by
    have h1 := h (X % 256) (Nat.mod_lt _ (by decide))
    rw [byt, byt, rep, ← byt_16 h n]
    have h2 : byt g n (X / 256) % 16 ≤ 4 := by
      cases n with
      | zero => rw [byt]; decide
      | succ n =>
        rw [byt]
        have := h (X / 256 % 256) (Nat.mod_lt _ (by decide))
        omega
    generalize g (X % 256) = b at h1 ⊢
    generalize byt g n (X / 256) = c at h2 ⊢
    have e : b + 256 * c + (b + 256 * c) / 16 = (b + b / 16 + 16 * (c % 16)) + 256 * (c + c / 16) := by omega
    rw [e, and_split _ _ _ _ (by omega) (by decide)]
    congr 1
    have := Nat.and_two_pow_sub_one_eq_mod (b + b / 16 + 16 * (c % 16)) 4
    rw [show 2 ^ 4 - 1 = 15 from rfl] at this
    rw [this]
    omega
/-- the sum of n bits -/
def bs : Nat → Nat → Nat
  | 0, _ => 0
  | n + 1, X => X % 2 + bs n (X / 2)
theorem bs_8 (n X : Nat) : bs (n + 8) X = bs 8 (X % 256) + bs n (X / 256) := by
  simp only [bs]
  rw [show X / 2 / 2 / 2 / 2 / 2 / 2 / 2 / 2 = X / 256 by omega]
  omega
def btA (b : Nat) : Nat := b - ((b / 2 ^ 1) &&& 85)
def btB (b : Nat) : Nat := ((b / 2 ^ 0) &&& 51) + ((b / 2 ^ 2) &&& 51)
theorem g_pop : ∀ b : Fin 256, (btB (btA b.val) + btB (btA b.val) / 16) % 16 = bs 8 b.val := by decide +kernel
theorem g_bnd : ∀ b : Fin 256, btA b.val < 256 ∧ btB (btA b.val) ≤ 68 ∧ btB (btA b.val) % 16 ≤ 4 ∧ bs 8 b.val ≤ 8 ∧ ((b.val / 2 ^ 1) &&& 85) ≤ b.val := by decide +kernel
theorem byt_bs8 (n X : Nat) : byt (bs 8) n X = byt (bs 8) n X := rfl
def lo (X : Nat) : Nat := bs 8 (X % 256)
theorem bs_64 (X : Nat) : bs 64 X = lo X + lo (X / 256) + lo (X / 256 / 256) + lo (X / 256 / 256 / 256) + lo (X / 256 / 256 / 256 / 256) + lo (X / 256 / 256 / 256 / 256 / 256) + lo (X / 256 / 256 / 256 / 256 / 256 / 256) + lo (X / 256 / 256 / 256 / 256 / 256 / 256 / 256) := by
  have e0 : bs 64 X = lo X + bs 56 (X / 256) := bs_8 56 X
  have e1 : bs 56 (X / 256) = lo (X / 256) + bs 48 (X / 256 / 256) := bs_8 48 (X / 256)
  have e2 : bs 48 (X / 256 / 256) = lo (X / 256 / 256) + bs 40 (X / 256 / 256 / 256) := bs_8 40 (X / 256 / 256)
  have e3 : bs 40 (X / 256 / 256 / 256) = lo (X / 256 / 256 / 256) + bs 32 (X / 256 / 256 / 256 / 256) := bs_8 32 (X / 256 / 256 / 256)
  have e4 : bs 32 (X / 256 / 256 / 256 / 256) = lo (X / 256 / 256 / 256 / 256) + bs 24 (X / 256 / 256 / 256 / 256 / 256) := bs_8 24 (X / 256 / 256 / 256 / 256)
  have e5 : bs 24 (X / 256 / 256 / 256 / 256 / 256) = lo (X / 256 / 256 / 256 / 256 / 256) + bs 16 (X / 256 / 256 / 256 / 256 / 256 / 256) := bs_8 16 (X / 256 / 256 / 256 / 256 / 256)
  have e6 : bs 16 (X / 256 / 256 / 256 / 256 / 256 / 256) = lo (X / 256 / 256 / 256 / 256 / 256 / 256) + bs 8 (X / 256 / 256 / 256 / 256 / 256 / 256 / 256) := bs_8 8 (X / 256 / 256 / 256 / 256 / 256 / 256)
  have e7 : bs 8 (X / 256 / 256 / 256 / 256 / 256 / 256 / 256) = lo (X / 256 / 256 / 256 / 256 / 256 / 256 / 256) + bs 0 (X / 256 / 256 / 256 / 256 / 256 / 256 / 256 / 256) := bs_8 0 (X / 256 / 256 / 256 / 256 / 256 / 256 / 256)
  have e8 : bs 0 (X / 256 / 256 / 256 / 256 / 256 / 256 / 256 / 256) = 0 := rfl
  omega
theorem sh_1 : ∀ b c, b < 256 → c < 256 → ((b + 256 * c) / 2 ^ 1 % 256) &&& 85 = (b / 2 ^ 1) &&& 85 := by
  intro b c hb hc
  have h : ∀ y : Fin 512, (y.val / 2 ^ 1 % 256) &&& 85 = (y.val % 256 / 2 ^ 1) &&& 85 := by decide +kernel
  have := h ⟨(b + 256 * c) % 512, Nat.mod_lt _ (by decide)⟩
  simp only [] at this
  rw [show (b + 256 * c) % 512 / 2 ^ 1 % 256 = (b + 256 * c) / 2 ^ 1 % 256 by omega, show (b + 256 * c) % 512 % 256 = b by omega] at this
  exact this
theorem sh_2 : ∀ b c, b < 256 → c < 256 → ((b + 256 * c) / 2 ^ 2 % 256) &&& 51 = (b / 2 ^ 2) &&& 51 := by
  intro b c hb hc
  have h : ∀ y : Fin 1024, (y.val / 2 ^ 2 % 256) &&& 51 = (y.val % 256 / 2 ^ 2) &&& 51 := by decide +kernel
  have := h ⟨(b + 256 * c) % 1024, Nat.mod_lt _ (by decide)⟩
  simp only [] at this
  rw [show (b + 256 * c) % 1024 / 2 ^ 2 % 256 = (b + 256 * c) / 2 ^ 2 % 256 by omega, show (b + 256 * c) % 1024 % 256 = b by omega] at this
  exact this
theorem sh_0 : ∀ b c, b < 256 → c < 256 → ((b + 256 * c) / 2 ^ 0 % 256) &&& 51 = (b / 2 ^ 0) &&& 51 := by
  intro b c hb hc
  rw [show (b + 256 * c) / 2 ^ 0 % 256 = b / 2 ^ 0 by simp; omega]
/-- the three steps on numbers below 2 ^ 64 -/
theorem stA {X : Nat} (h : X < 256 ^ 8) : X - ((X / 2 ^ 1) &&& rep 85 8) = byt btA 8 X := by
  rw [byt_sh 1 85 (by decide) (by decide) sh_1]
  have := byt_id 8 X h
  have e : X - byt (fun b => b / 2 ^ 1 &&& 85) 8 X = byt (fun b => b) 8 X - byt (fun b => b / 2 ^ 1 &&& 85) 8 X := by rw [this]
  rw [e, byt_sub (fun b hb => (g_bnd ⟨b, hb⟩).2.2.2.2)]
  rfl
theorem stB (X : Nat) : ((X / 2 ^ 0) &&& rep 51 8) + ((X / 2 ^ 2) &&& rep 51 8) = byt btB 8 X := by
  rw [byt_sh 0 51 (by decide) (by decide) sh_0, byt_sh 2 51 (by decide) (by decide) sh_2, byt_add]
  rfl
theorem stC (X : Nat) : (byt btB 8 (byt btA 8 X) + byt btB 8 (byt btA 8 X) / 16) &&& rep 15 8 = byt (bs 8) 8 X := by
  rw [byt_cmp (fun b hb => (g_bnd ⟨b, hb⟩).1), byt_16 (fun b hb => ⟨(g_bnd ⟨b, hb⟩).2.1, (g_bnd ⟨b, hb⟩).2.2.1⟩)]
  exact byt_ext (fun b hb => g_pop ⟨b, hb⟩) 8 X
theorem dv1 {a : Nat} (Q : Nat) (ha : a < 256) : (a + 256 * Q) / 2 ^ 8 = Q := by omega
theorem dv2 {a b : Nat} (Q : Nat) (ha : a < 256) (hb : b < 256) : (a + 256 * (b + 256 * Q)) / 2 ^ 16 = Q := by omega
theorem dv4 {a b c d : Nat} (Q : Nat) (ha : a < 256) (hb : b < 256) (hc : c < 256) (hd : d < 256) : (a + 256 * (b + 256 * (c + 256 * (d + 256 * Q)))) / 2 ^ 32 = Q := by
  have h := dv2 (d + 256 * Q) hb hc
  omega
theorem md1 {a b : Nat} (P Q : Nat) (h : a + b < 128) : ((a + 256 * P) + (b + 256 * Q)) % 128 = a + b := by omega
theorem py2 (r0 r1 r2 r3 r4 r5 r6 r7 : Nat) : (r0 + 256 * (r1 + 256 * (r2 + 256 * (r3 + 256 * (r4 + 256 * (r5 + 256 * (r6 + 256 * (r7 + 256 * (0))))))))) + (r1 + 256 * (r2 + 256 * (r3 + 256 * (r4 + 256 * (r5 + 256 * (r6 + 256 * (r7 + 256 * (0)))))))) = (r0 + r1) + 256 * ((r1 + r2) + 256 * ((r2 + r3) + 256 * ((r3 + r4) + 256 * ((r4 + r5) + 256 * ((r5 + r6) + 256 * ((r6 + r7) + 256 * (r7 + 256 * (0)))))))) := by omega
theorem py4 (r0 r1 r2 r3 r4 r5 r6 r7 : Nat) : ((r0 + r1) + 256 * ((r1 + r2) + 256 * ((r2 + r3) + 256 * ((r3 + r4) + 256 * ((r4 + r5) + 256 * ((r5 + r6) + 256 * ((r6 + r7) + 256 * (r7 + 256 * (0))))))))) + ((r2 + r3) + 256 * ((r3 + r4) + 256 * ((r4 + r5) + 256 * ((r5 + r6) + 256 * ((r6 + r7) + 256 * (r7 + 256 * (0))))))) = ((r0 + r1) + (r2 + r3)) + 256 * (((r1 + r2) + (r3 + r4)) + 256 * (((r2 + r3) + (r4 + r5)) + 256 * (((r3 + r4) + (r5 + r6)) + 256 * (((r4 + r5) + (r6 + r7)) + 256 * (((r5 + r6) + r7) + 256 * (((r6 + r7)) + 256 * ((r7) + 256 * (0)))))))) := by omega
theorem stD (X : Nat) : byt (bs 8) 8 X < 2 ^ 60 ∧ ((byt (bs 8) 8 X + byt (bs 8) 8 X / 2 ^ 8) + (byt (bs 8) 8 X + byt (bs 8) 8 X / 2 ^ 8) / 2 ^ 16 + ((byt (bs 8) 8 X + byt (bs 8) 8 X / 2 ^ 8) + (byt (bs 8) 8 X + byt (bs 8) 8 X / 2 ^ 8) / 2 ^ 16) / 2 ^ 32) % 128 = bs 64 X := by
  have hb : ∀ Y, lo Y ≤ 8 := fun Y => (g_bnd ⟨Y % 256, Nat.mod_lt _ (by decide)⟩).2.2.2.1
  have e : byt (bs 8) 8 X = lo X + 256 * (lo (X / 256) + 256 * (lo (X / 256 / 256) + 256 * (lo (X / 256 / 256 / 256) + 256 * (lo (X / 256 / 256 / 256 / 256) + 256 * (lo (X / 256 / 256 / 256 / 256 / 256) + 256 * (lo (X / 256 / 256 / 256 / 256 / 256 / 256) + 256 * (lo (X / 256 / 256 / 256 / 256 / 256 / 256 / 256) + 256 * 0))))))) := rfl
  rw [e, bs_64]
  have h0 := hb X
  have h1 := hb (X / 256)
  have h2 := hb (X / 256 / 256)
  have h3 := hb (X / 256 / 256 / 256)
  have h4 := hb (X / 256 / 256 / 256 / 256)
  have h5 := hb (X / 256 / 256 / 256 / 256 / 256)
  have h6 := hb (X / 256 / 256 / 256 / 256 / 256 / 256)
  have h7 := hb (X / 256 / 256 / 256 / 256 / 256 / 256 / 256)
  generalize lo X = r0 at h0 ⊢
  generalize lo (X / 256) = r1 at h1 ⊢
  generalize lo (X / 256 / 256) = r2 at h2 ⊢
  generalize lo (X / 256 / 256 / 256) = r3 at h3 ⊢
  generalize lo (X / 256 / 256 / 256 / 256) = r4 at h4 ⊢
  generalize lo (X / 256 / 256 / 256 / 256 / 256) = r5 at h5 ⊢
  generalize lo (X / 256 / 256 / 256 / 256 / 256 / 256) = r6 at h6 ⊢
  generalize lo (X / 256 / 256 / 256 / 256 / 256 / 256 / 256) = r7 at h7 ⊢
  refine ⟨by omega, ?_⟩
  rw [dv1 _ (by omega), py2, dv2 _ (by omega) (by omega), py4, dv4 _ (by omega) (by omega) (by omega) (by omega), md1 _ _ (by omega)]
  omega
theorem sh64 (x : Int64) (s : Int32) (k : Nat) (hs : ((s.toInt64.toUInt64 &&& Int64.toUInt64 63).toBitVec % 64).toNat = k) : ((x.toUInt64 >>> (s.toInt64.toUInt64 &&& Int64.toUInt64 63)).toInt64).toBitVec.toNat = x.toBitVec.toNat / 2 ^ k := by
  show (x.toUInt64 >>> (s.toInt64.toUInt64 &&& Int64.toUInt64 63)).toBitVec.toNat = _
  rw [UInt64.toBitVec_shiftRight, BitVec.ushiftRight_eq', BitVec.toNat_ushiftRight, hs, Nat.shiftRight_eq_div_pow]
  rfl
theorem tn_and (x : Int64) (m : Int64) (M : Nat) (hm : m.toBitVec.toNat = M) : (x &&& m).toBitVec.toNat = x.toBitVec.toNat &&& M := by
  rw [Int64.toBitVec_and, BitVec.toNat_and, hm]
theorem tn_add {x y : Int64} (h : x.toBitVec.toNat + y.toBitVec.toNat < 2 ^ 64) : (x + y).toBitVec.toNat = x.toBitVec.toNat + y.toBitVec.toNat := by
  rw [Int64.toBitVec_add, BitVec.toNat_add, Nat.mod_eq_of_lt h]
theorem tn_sub {x y : Int64} (h : y.toBitVec.toNat ≤ x.toBitVec.toNat) : (x - y).toBitVec.toNat = x.toBitVec.toNat - y.toBitVec.toNat := by
  rw [Int64.toBitVec_sub, BitVec.toNat_sub_of_le h]
theorem rep_85 : rep 85 8 = 6148914691236517205 := by decide +kernel
theorem rep_51 : rep 51 8 = 3689348814741910323 := by decide +kernel
theorem rep_15 : rep 15 8 = 1085102592571150095 := by decide +kernel
theorem tn_A (x : Int64) : (bcA x).toBitVec.toNat = byt btA 8 x.toBitVec.toNat := by
  unfold bcA
  have e : ((x.toUInt64 >>> ((nI 1).toInt64.toUInt64 &&& Int64.toUInt64 63)).toInt64 &&& 6148914691236517205).toBitVec.toNat = (x.toBitVec.toNat / 2 ^ 1) &&& rep 85 8 := by
    rw [tn_and _ _ (rep 85 8) (by decide +kernel), sh64 x (nI 1) 1 (by decide +kernel)]
  have hlt : x.toBitVec.toNat < 256 ^ 8 := x.toBitVec.isLt
  rw [tn_sub, e, stA hlt]
  rw [e]
  exact Nat.le_trans Nat.and_le_left (Nat.div_le_self _ _)
theorem tn_B (x : Int64) (hB : byt btB 8 x.toBitVec.toNat < 2 ^ 64) : (bcB x).toBitVec.toNat = byt btB 8 x.toBitVec.toNat := by
  unfold bcB
  have e1 : (x &&& 3689348814741910323).toBitVec.toNat = (x.toBitVec.toNat / 2 ^ 0) &&& rep 51 8 := by
    rw [tn_and _ _ (rep 51 8) (by decide +kernel), Nat.pow_zero, Nat.div_one]
  have e2 : ((x.toUInt64 >>> ((nI 2).toInt64.toUInt64 &&& Int64.toUInt64 63)).toInt64 &&& 3689348814741910323).toBitVec.toNat = (x.toBitVec.toNat / 2 ^ 2) &&& rep 51 8 := by
    rw [tn_and _ _ (rep 51 8) (by decide +kernel), sh64 x (nI 2) 2 (by decide +kernel)]
  rw [tn_add, e1, e2, stB]
  rw [e1, e2, stB]; exact hB
theorem byt_lt64 {g : Nat → Nat} {c : Nat} (hc : c < 256) (hg : ∀ b, b < 256 → g b ≤ c) (X : Nat) : byt g 8 X < 2 ^ 64 := byt_lt hc hg 8 X
theorem tn_D (k : Nat) (x : Int64) (hs : (((nI k).toInt64.toUInt64 &&& Int64.toUInt64 63).toBitVec % 64).toNat = k) (h : x.toBitVec.toNat + x.toBitVec.toNat / 2 ^ k < 2 ^ 64) : (bcD k x).toBitVec.toNat = x.toBitVec.toNat + x.toBitVec.toNat / 2 ^ k := by
  unfold bcD
  rw [tn_add, sh64 x (nI k) k hs]
  rw [sh64 x (nI k) k hs]; exact h
theorem bc_bs (x : Int64) : bc x = nI (bs 64 x.toBitVec.toNat) := by
  have hA := tn_A x
  have hBB : byt btB 8 (bcA x).toBitVec.toNat = byt (fun b => btB (btA b)) 8 x.toBitVec.toNat := by rw [hA, byt_cmp (fun b hb => (g_bnd ⟨b, hb⟩).1)]
  have hlt : byt (fun b => btB (btA b)) 8 x.toBitVec.toNat < 256 ^ 8 := byt_lt (c := 68) (by decide) (fun b hb => (g_bnd ⟨b, hb⟩).2.1) 8 _
  have hB := tn_B (bcA x) (by rw [hBB]; exact hlt)
  have hle : byt (fun b => btB (btA b)) 8 x.toBitVec.toNat ≤ byt (fun _ => 68) 8 x.toBitVec.toNat := byt_le (fun b hb => (g_bnd ⟨b, hb⟩).2.1) 8 _
  have h68 : byt (fun _ => 68) 8 x.toBitVec.toNat = 4919131752989213764 := by simp only [byt]
  have hC : (bcC (bcB (bcA x))).toBitVec.toNat = byt (bs 8) 8 x.toBitVec.toNat := by
    unfold bcC
    rw [tn_and _ _ (rep 15 8) (by decide +kernel), tn_add, sh64 _ (nI 4) 4 (by decide +kernel), hB, hA, show (2 : Nat) ^ 4 = 16 from rfl, stC]
    rw [sh64 _ (nI 4) 4 (by decide +kernel), hB, hBB]
    omega
  obtain ⟨hd1, hd2⟩ := stD x.toBitVec.toNat
  generalize byt (bs 8) 8 x.toBitVec.toNat = Y at hC hd1 hd2
  have h1 := tn_D 8 _ (by decide +kernel) (by rw [hC]; omega : (bcC (bcB (bcA x))).toBitVec.toNat + _ < _)
  rw [hC] at h1
  have h2 := tn_D 16 _ (by decide +kernel) (by rw [h1]; omega : (bcD 8 (bcC (bcB (bcA x)))).toBitVec.toNat + _ < _)
  rw [h1] at h2
  have h3 := tn_D 32 _ (by decide +kernel) (by rw [h2]; omega : (bcD 16 (bcD 8 (bcC (bcB (bcA x))))).toBitVec.toNat + _ < _)
  rw [h2] at h3
  unfold bc
  rw [← hd2, ← h3]
  generalize bcD 32 (bcD 16 (bcD 8 (bcC (bcB (bcA x))))) = z
  rw [← Int32.toBitVec_inj]
  apply BitVec.eq_of_toNat_eq
  rw [Int32.toBitVec_and, BitVec.toNat_and]
  show z.toInt32.toBitVec.toNat &&& 127 = (z.toBitVec.toNat % 128) % 2 ^ 32
  have := Nat.and_two_pow_sub_one_eq_mod z.toInt32.toBitVec.toNat 7
  rw [show 2 ^ 7 - 1 = 127 from rfl] at this
  rw [this]
  have e : z.toInt32.toBitVec.toNat = z.toBitVec.toNat % 2 ^ 32 := by
    rw [Int64.toBitVec_toInt32, BitVec.signExtend_eq_setWidth_of_le _ (by decide), BitVec.toNat_setWidth]
  rw [e]
  omega
theorem mbG_bs (x : Int64) : ∀ (m k : Nat) (a : Int32), k + m ≤ 64 → mbG x m k a = a + nI (bs m (x.toBitVec.toNat / 2 ^ k))
  | 0, k, a, _ => by rw [mbG, bs, nI_0]; simp
  | m + 1, k, a, h => by
    rw [mbG, mbG_bs x m (k + 1) _ (by omega), bs, ← nI_add, Int32.add_assoc]
    congr 2
    · have hb : x.toBitVec.toNat / 2 ^ k % 2 = (tb x k).toNat := by
        unfold tb
        rw [BitVec.getLsbD, Nat.testBit, Nat.shiftRight_eq_div_pow]
        have := Nat.mod_two_eq_zero_or_one (x.toBitVec.toNat / 2 ^ k)
        rcases this with q | q
        · simp [q, Nat.one_and_eq_mod_two]
        · simp [q, Nat.one_and_eq_mod_two]
      rw [hb]
      cases ht : tb x k with
      | false => rw [(tb_shr x (by omega)).mpr ht]; rfl
      | true => rw [(tb_shr1 x (by omega)).mpr ht]; rfl
    · rw [Nat.div_div_eq_div_mul, ← Nat.pow_succ]
theorem bc_mb (x : Int64) : bc x = mbG x 64 0 (nI 0) := by
  rw [bc_bs, mbG_bs x 64 0 _ (by omega), Nat.pow_zero, Nat.div_one, nI_0]; simp
