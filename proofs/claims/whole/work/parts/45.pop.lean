/-! how many bits -/
def m55 : Nat → Nat
  | 0 => 0
  | n + 1 => 85 + 256 * m55 n
def m33 : Nat → Nat
  | 0 => 0
  | n + 1 => 51 + 256 * m33 n
def m0f : Nat → Nat
  | 0 => 0
  | n + 1 => 15 + 256 * m0f n
def S1 (n x : Nat) : Nat := x - (x / 2 &&& m55 n)
def S2 (n x : Nat) : Nat := (x &&& m33 n) + (x / 4 &&& m33 n)
def S3 (n x : Nat) : Nat := x + x / 16 &&& m0f n
def y1 (a : Nat) : Nat := a - (a / 2 &&& 85)
def y2 (a : Nat) : Nat := (a &&& 51) + (a / 4 &&& 51)
def y3 (a : Nat) : Nat := a + a / 16 &&& 15
theorem and_sp {a b h k : Nat} (ha : a < 256) (hb : b < 256) : (a + 256 * h) &&& (b + 256 * k) = (a &&& b) + 256 * (h &&& k) := by
  have e1 : ((a + 256 * h) &&& (b + 256 * k)) % 2 ^ 8 = (a + 256 * h) % 2 ^ 8 &&& (b + 256 * k) % 2 ^ 8 := Nat.and_mod_two_pow
  have e2 : ((a + 256 * h) &&& (b + 256 * k)) / 2 ^ 8 = (a + 256 * h) / 2 ^ 8 &&& (b + 256 * k) / 2 ^ 8 := Nat.and_div_two_pow
  rw [show (a + 256 * h) % 2 ^ 8 = a by omega, show (b + 256 * k) % 2 ^ 8 = b by omega] at e1
  rw [show (a + 256 * h) / 2 ^ 8 = h by omega, show (b + 256 * k) / 2 ^ 8 = k by omega] at e2
  rw [← e1, ← e2]
  omega
theorem f85 : ∀ a : Fin 128, ∀ c : Fin 2, (a.val + 128 * c.val) &&& 85 = a.val &&& 85 := by decide +kernel
theorem f51 : ∀ a : Fin 64, ∀ c : Fin 4, (a.val + 64 * c.val) &&& 51 = a.val &&& 51 := by decide +kernel
theorem s1_sp {n a h : Nat} (ha : a < 256) : S1 (n + 1) (a + 256 * h) = y1 a + 256 * S1 n h := by
  unfold S1 y1
  have e1 : (a + 256 * h) / 2 = (a / 2 + 128 * (h % 2)) + 256 * (h / 2) := by omega
  rw [m55, e1, and_sp (by omega) (by omega), f85 ⟨a / 2, by omega⟩ ⟨h % 2, by omega⟩]
  have l1 : a / 2 &&& 85 ≤ a / 2 := Nat.and_le_left
  have l2 : h / 2 &&& m55 n ≤ h / 2 := Nat.and_le_left
  simp only []
  omega
theorem s2_sp {n a h : Nat} (ha : a < 256) : S2 (n + 1) (a + 256 * h) = y2 a + 256 * S2 n h := by
  unfold S2 y2
  have e1 : (a + 256 * h) / 4 = (a / 4 + 64 * (h % 4)) + 256 * (h / 4) := by omega
  rw [m33, e1, and_sp ha (by omega), and_sp (by omega) (by omega), f51 ⟨a / 4, by omega⟩ ⟨h % 4, by omega⟩]
  simp only []
  omega
theorem and15 (x : Nat) : x &&& 15 = x % 16 := Nat.and_two_pow_sub_one_eq_mod x 4
theorem s3_sp {n a h : Nat} (ha : a ≤ 102) (hh : h % 16 ≤ 6) : S3 (n + 1) (a + 256 * h) = y3 a + 256 * S3 n h := by
  unfold S3 y3
  have e1 : a + 256 * h + (a + 256 * h) / 16 = (a + a / 16 + 16 * (h % 16)) + 256 * (h + h / 16) := by omega
  rw [m0f, e1, and_sp (by omega) (by omega), and15, and15]
  omega
theorem y2_f : ∀ a : Fin 256, y2 (y1 a.val) ≤ 102 ∧ y2 (y1 a.val) % 16 ≤ 6 ∧ y3 (y2 (y1 a.val)) = a.val % 2 + (a.val / 2 % 2 + (a.val / 2 / 2 % 2 + (a.val / 2 / 2 / 2 % 2 + (a.val / 2 / 2 / 2 / 2 % 2 + (a.val / 2 / 2 / 2 / 2 / 2 % 2 + (a.val / 2 / 2 / 2 / 2 / 2 / 2 % 2 + (a.val / 2 / 2 / 2 / 2 / 2 / 2 / 2 % 2))))))) := by decide +kernel
def pc : Nat → Nat → Nat
  | 0, _ => 0
  | n + 1, m => m % 2 + pc n (m / 2)
theorem pc8 (k m : Nat) : pc (k + 8) m = (m % 2 + (m / 2 % 2 + (m / 2 / 2 % 2 + (m / 2 / 2 / 2 % 2 + (m / 2 / 2 / 2 / 2 % 2 + (m / 2 / 2 / 2 / 2 / 2 % 2 + (m / 2 / 2 / 2 / 2 / 2 / 2 % 2 + (m / 2 / 2 / 2 / 2 / 2 / 2 / 2 % 2)))))))) + pc k (m / 256) := by
  rw [pc, pc, pc, pc, pc, pc, pc, pc, show m / 2 / 2 / 2 / 2 / 2 / 2 / 2 / 2 = m / 256 by omega]
  omega
/-- the three first steps, byte by byte -/
def byt (m : Nat) : Nat := y3 (y2 (y1 (m % 256)))
theorem byt_e (k m : Nat) : pc (k + 8) m = byt m + pc k (m / 256) := by
  have := (y2_f ⟨m % 256, by omega⟩).2.2
  simp only [] at this
  unfold byt
  rw [pc8, this]
  omega
theorem byt_le (m : Nat) : byt m ≤ 8 := by
  have := (y2_f ⟨m % 256, by omega⟩).2.2
  simp only [] at this
  unfold byt
  rw [this]
  omega
def T3 : Nat → Nat → Nat
  | 0, _ => 0
  | n + 1, m => byt m + 256 * T3 n (m / 256)
theorem y1_lt {a : Nat} (h : a < 256) : y1 a < 256 := by unfold y1; omega
theorem s2_16 : ∀ n m, S2 n (S1 n m) % 16 ≤ 6
  | 0, m => by
    have : S2 0 (S1 0 m) = 0 := by unfold S2; rw [m33, Nat.and_zero, Nat.and_zero]
    rw [this]; omega
  | n + 1, m => by
    have hm : m = m % 256 + 256 * (m / 256) := by omega
    rw [hm, s1_sp (by omega), s2_sp (y1_lt (by omega))]
    have := (y2_f ⟨m % 256, by omega⟩).2.1
    simp only [] at this
    omega
theorem s123 : ∀ n m, S3 n (S2 n (S1 n m)) = T3 n m
  | 0, m => by unfold S3; rw [m0f, Nat.and_zero, T3]
  | n + 1, m => by
    have ih := s123 n (m / 256)
    have hm : m = m % 256 + 256 * (m / 256) := by omega
    have b1 := (y2_f ⟨m % 256, by omega⟩).1
    simp only [] at b1
    rw [T3, ← ih]
    conv => lhs; rw [hm]
    rw [s1_sp (by omega), s2_sp (y1_lt (by omega)), s3_sp b1 (s2_16 n _)]
    rfl
theorem zlushr_nat {a k : Nat} (hk : k < 64) (ha : a < 9223372036854775808) : zlushr a k = ((a / 2 ^ k : Nat) : Int) := by
  have hd : a / 2 ^ k ≤ a := Nat.div_le_self _ _
  have sh : ∀ k : Fin 64, ((Int32.ofInt (k.val : Int)).toInt64.toUInt64 &&& Int64.toUInt64 63).toBitVec.toNat = k.val := by decide +kernel
  have sh2 : ∀ k : Fin 64, (((Int32.ofInt (k.val : Int)).toInt64.toUInt64 &&& Int64.toUInt64 63).toBitVec % 64#64).toNat = k.val := by decide +kernel
  show ((Int64.ofInt (a : Int)).toBitVec >>> (((Int32.ofInt (k : Int)).toInt64.toUInt64 &&& Int64.toUInt64 63).toBitVec % 64#64)).toInt = _
  rw [b64]
  refine b64i ?_ (by omega)
  rw [BitVec.ushiftRight_eq', sh2 ⟨k, hk⟩, BitVec.toNat_ushiftRight, b64n (by omega), Nat.shiftRight_eq_div_pow]
theorem and127 (x : Nat) : ziand (zl2i (x : Int)) 127 = ((x % 128 : Nat) : Int) := by
  have e : Int32.ofInt (zl2i (x : Int)) = Int32.ofInt (x : Int) := by rw [← zl2i_of, l2i_of]
  show (Int32.ofInt (zl2i (x : Int)) &&& Int32.ofInt 127).toInt = _
  rw [e]
  show ((Int32.ofInt (x : Int)).toBitVec &&& (Int32.ofInt 127).toBitVec).toInt = _
  have h1 : (Int32.ofInt (x : Int)).toBitVec = BitVec.ofNat 32 x := by rw [Int32.toBitVec_ofInt, BitVec.ofInt_natCast]
  have h2 : (Int32.ofInt 127).toBitVec = 127#32 := by decide
  rw [h1, h2]
  have h3 : (BitVec.ofNat 32 x &&& 127#32).toNat = x % 128 := by
    rw [BitVec.toNat_and, BitVec.toNat_ofNat]
    have : (127#32).toNat = 2 ^ 7 - 1 := by decide
    rw [this, Nat.and_two_pow_sub_one_eq_mod]
    omega
  rw [BitVec.toInt_eq_toNat_of_lt (by omega), h3]
theorem t3_8 (m : Nat) : T3 8 m = byt m + 256 * (byt (m / 256) + 256 * (byt (m / 256 / 256) + 256 * (byt (m / 256 / 256 / 256) + 256 * (byt (m / 256 / 256 / 256 / 256) + 256 * (byt (m / 256 / 256 / 256 / 256 / 256) + 256 * (byt (m / 256 / 256 / 256 / 256 / 256 / 256) + 256 * byt (m / 256 / 256 / 256 / 256 / 256 / 256 / 256))))))) := by
  simp only [T3]; omega
theorem pc_64 (m : Nat) : pc 64 m = byt m + (byt (m / 256) + (byt (m / 256 / 256) + (byt (m / 256 / 256 / 256) + (byt (m / 256 / 256 / 256 / 256) + (byt (m / 256 / 256 / 256 / 256 / 256) + (byt (m / 256 / 256 / 256 / 256 / 256 / 256) + byt (m / 256 / 256 / 256 / 256 / 256 / 256 / 256))))))) := by
  rw [byt_e 56, byt_e 48, byt_e 40, byt_e 32, byt_e 24, byt_e 16, byt_e 8, byt_e 0, pc]
  omega
theorem pop_1 {p0 p1 p2 A1 A2 A3 T : Nat} (l0 : p0 ≤ 8) (l1 : p1 ≤ 8) (l2 : p2 ≤ 8) (h2 : A2 = p2 + 256 * A3) (h1 : A1 = p1 + 256 * A2) (t : T = p0 + 256 * A1) : T / 256 = A1 ∧ T + A1 = (p0 + p1) + 256 * (p1 + p2) + 65536 * (A2 + A3) ∧ (T + A1) / 65536 = A2 + A3 := by
  have e : T / 256 = A1 := by omega
  have e2 : T + A1 = (p0 + p1) + 256 * (p1 + p2) + 65536 * (A2 + A3) := by omega
  exact ⟨e, e2, by omega⟩
theorem pop_2 {p0 p1 p2 p3 p4 p5 p6 A2 A3 A4 A5 A6 A7 w : Nat} (l0 : p0 ≤ 8) (l1 : p1 ≤ 8) (l2 : p2 ≤ 8) (l3 : p3 ≤ 8) (l4 : p4 ≤ 8) (l5 : p5 ≤ 8) (l6 : p6 ≤ 8) (h2 : A2 = p2 + 256 * A3) (h3 : A3 = p3 + 256 * A4) (h4 : A4 = p4 + 256 * A5) (h5 : A5 = p5 + 256 * A6) (h6 : A6 = p6 + 256 * A7) (hw : w = (p0 + p1) + 256 * (p1 + p2) + 65536 * (A2 + A3) + (A2 + A3)) : w / 4294967296 = A4 + A5 + A6 + A7 := by
  have e1 : A2 + A3 = (p2 + p3) + 256 * (p3 + p4) + 65536 * (A4 + A5) := by omega
  have e2 : A4 + A5 = (p4 + p5) + 256 * (p5 + p6) + 65536 * (A6 + A7) := by omega
  generalize hB : A6 + A7 = B at *
  generalize hC : A4 + A5 = C at *
  generalize hD : A2 + A3 = D at *
  have e3 : w = (p0 + p1 + p2 + p3) + 256 * (p1 + p2 + p3 + p4) + 65536 * (D + C) := by omega
  have e4 : D + C = (p2 + p3 + p4 + p5) + 256 * (p3 + p4 + p5 + p6) + 65536 * (C + B) := by omega
  generalize hG : D + C = G at *
  have e5 : w / 65536 = G := by omega
  have e6 : G / 65536 = C + B := by omega
  have e7 : w / 4294967296 = w / 65536 / 65536 := by rw [Nat.div_div_eq_div_mul]
  rw [e7, e5, e6]
  omega
theorem pop_fin {p0 p1 p2 p3 p4 p5 p6 p7 A1 A2 A3 A4 A5 A6 A7 T w : Nat} (l0 : p0 ≤ 8) (l1 : p1 ≤ 8) (l2 : p2 ≤ 8) (l3 : p3 ≤ 8) (l4 : p4 ≤ 8) (l5 : p5 ≤ 8) (l6 : p6 ≤ 8) (l7 : p7 ≤ 8) (h7 : A7 = p7) (h6 : A6 = p6 + 256 * A7) (h5 : A5 = p5 + 256 * A6) (h4 : A4 = p4 + 256 * A5) (h3 : A3 = p3 + 256 * A4) (h2 : A2 = p2 + 256 * A3) (h1 : A1 = p1 + 256 * A2) (t : T = p0 + 256 * A1) (hw : T + T / 256 + (T + T / 256) / 65536 = w) : (w + w / 4294967296) % 128 = p0 + (p1 + (p2 + (p3 + (p4 + (p5 + (p6 + p7)))))) := by
  obtain ⟨a1, a2, a3⟩ := pop_1 l0 l1 l2 h2 h1 t
  rw [a1, a3, a2] at hw
  have e := pop_2 l0 l1 l2 l3 l4 l5 l6 h2 h3 h4 h5 h6 hw.symm
  rw [e]
  have e8 : w + (A4 + A5 + A6 + A7) = (p0 + p1 + p2 + p3 + p4 + p5 + p6 + p7) + 256 * (p1 + p2 + 256 * (A2 + A3) + A3 + A4 + A5 + A6 + A7) := by
    rw [← hw, h2, h3, h7, h6]
    omega
  rw [e8]
  omega
theorem bitCount_e (S : SZ) {m : Nat} (hm : m < 2 ^ 50) : f_J13_bitCount S m = some (S, (pc 64 m : Int)) := by
  have k55 : (6148914691236517205 : Int) = ((m55 8 : Nat) : Int) := by decide
  have k33 : (3689348814741910323 : Int) = ((m33 8 : Nat) : Int) := by decide
  have k0f : (1085102592571150095 : Int) = ((m0f 8 : Nat) : Int) := by decide
  have v55 : m55 8 = 6148914691236517205 := by decide
  have v33 : m33 8 = 3689348814741910323 := by decide
  have v0f : m0f 8 = 1085102592571150095 := by decide
  have a1 : m / 2 &&& m55 8 ≤ m / 2 := Nat.and_le_left
  have e1 : (m : Int) - zland (zlushr (m : Int) 1) 6148914691236517205 = ((S1 8 m : Nat) : Int) := by
    have t : zlushr (m : Int) 1 = ((m / 2 ^ 1 : Nat) : Int) := zlushr_nat (k := 1) (by decide) (by omega)
    rw [t, k55, zland_nat (by omega) (by omega)]
    unfold S1
    rw [show m / 2 ^ 1 = m / 2 by omega]
    omega
  have b1 : S1 8 m ≤ m := by unfold S1; omega
  have e2 : zland ((S1 8 m : Nat) : Int) 3689348814741910323 + zland (zlushr ((S1 8 m : Nat) : Int) 2) 3689348814741910323 = ((S2 8 (S1 8 m) : Nat) : Int) := by
    have t : zlushr ((S1 8 m : Nat) : Int) 2 = ((S1 8 m / 2 ^ 2 : Nat) : Int) := zlushr_nat (k := 2) (by decide) (by omega)
    rw [t, k33, zland_nat (by omega) (by omega), zland_nat (by omega) (by omega)]
    unfold S2
    rw [show S1 8 m / 2 ^ 2 = S1 8 m / 4 by omega]
    rfl
  have b2 : S2 8 (S1 8 m) ≤ 2 * m := by
    have c1 : S1 8 m &&& m33 8 ≤ S1 8 m := Nat.and_le_left
    have c2 : S1 8 m / 4 &&& m33 8 ≤ S1 8 m / 4 := Nat.and_le_left
    have c3 : S2 8 (S1 8 m) = (S1 8 m &&& m33 8) + (S1 8 m / 4 &&& m33 8) := rfl
    omega
  have e3 : zland (((S2 8 (S1 8 m) : Nat) : Int) + zlushr ((S2 8 (S1 8 m) : Nat) : Int) 4) 1085102592571150095 = ((T3 8 m : Nat) : Int) := by
    have t : zlushr ((S2 8 (S1 8 m) : Nat) : Int) 4 = ((S2 8 (S1 8 m) / 2 ^ 4 : Nat) : Int) := zlushr_nat (k := 4) (by decide) (by omega)
    rw [t, k0f, show ((S2 8 (S1 8 m) : Nat) : Int) + ((S2 8 (S1 8 m) / 2 ^ 4 : Nat) : Int) = ((S2 8 (S1 8 m) + S2 8 (S1 8 m) / 16 : Nat) : Int) by omega, zland_nat (by omega) (by omega), ← s123]
    rfl
  have b3 : T3 8 m ≤ 1085102592571150095 := by
    rw [← s123, ← v0f]; exact Nat.and_le_right
  have e4 : ((T3 8 m : Nat) : Int) + zlushr ((T3 8 m : Nat) : Int) 8 = ((T3 8 m + T3 8 m / 256 : Nat) : Int) := by
    have t : zlushr ((T3 8 m : Nat) : Int) 8 = ((T3 8 m / 2 ^ 8 : Nat) : Int) := zlushr_nat (k := 8) (by decide) (by omega)
    rw [t]; omega
  have e5 : ((T3 8 m + T3 8 m / 256 : Nat) : Int) + zlushr ((T3 8 m + T3 8 m / 256 : Nat) : Int) 16 = ((T3 8 m + T3 8 m / 256 + (T3 8 m + T3 8 m / 256) / 65536 : Nat) : Int) := by
    have t : zlushr ((T3 8 m + T3 8 m / 256 : Nat) : Int) 16 = (((T3 8 m + T3 8 m / 256) / 2 ^ 16 : Nat) : Int) := zlushr_nat (k := 16) (by decide) (by omega)
    rw [t]; omega
  generalize hw : T3 8 m + T3 8 m / 256 + (T3 8 m + T3 8 m / 256) / 65536 = w at e5
  have e6 : ((w : Nat) : Int) + zlushr ((w : Nat) : Int) 32 = ((w + w / 4294967296 : Nat) : Int) := by
    have t : zlushr ((w : Nat) : Int) 32 = ((w / 2 ^ 32 : Nat) : Int) := zlushr_nat (k := 32) (by decide) (by omega)
    rw [t]; omega
  unfold f_J13_bitCount
  rw [olet_e, olet_e, olet_e, olet_e, olet_e, olet_e, e1, e2, e3, e4, e5, e6, and127]
  have p := pc_64 m
  have t := t3_8 m
  have l0 := byt_le m
  have l1 := byt_le (m / 256)
  have l2 := byt_le (m / 256 / 256)
  have l3 := byt_le (m / 256 / 256 / 256)
  have l4 := byt_le (m / 256 / 256 / 256 / 256)
  have l5 := byt_le (m / 256 / 256 / 256 / 256 / 256)
  have l6 := byt_le (m / 256 / 256 / 256 / 256 / 256 / 256)
  have l7 := byt_le (m / 256 / 256 / 256 / 256 / 256 / 256 / 256)
  generalize byt m = p0 at *
  generalize byt (m / 256) = p1 at *
  generalize byt (m / 256 / 256) = p2 at *
  generalize byt (m / 256 / 256 / 256) = p3 at *
  generalize byt (m / 256 / 256 / 256 / 256) = p4 at *
  generalize byt (m / 256 / 256 / 256 / 256 / 256) = p5 at *
  generalize byt (m / 256 / 256 / 256 / 256 / 256 / 256) = p6 at *
  generalize byt (m / 256 / 256 / 256 / 256 / 256 / 256 / 256) = p7 at *
  obtain ⟨A7, hA7⟩ : ∃ A7, A7 = p7 := ⟨_, rfl⟩
  obtain ⟨A6, hA6⟩ : ∃ A6, A6 = p6 + 256 * A7 := ⟨_, rfl⟩
  obtain ⟨A5, hA5⟩ : ∃ A5, A5 = p5 + 256 * A6 := ⟨_, rfl⟩
  obtain ⟨A4, hA4⟩ : ∃ A4, A4 = p4 + 256 * A5 := ⟨_, rfl⟩
  obtain ⟨A3, hA3⟩ : ∃ A3, A3 = p3 + 256 * A4 := ⟨_, rfl⟩
  obtain ⟨A2, hA2⟩ : ∃ A2, A2 = p2 + 256 * A3 := ⟨_, rfl⟩
  obtain ⟨A1, hA1⟩ : ∃ A1, A1 = p1 + 256 * A2 := ⟨_, rfl⟩
  rw [← hA7, ← hA6, ← hA5, ← hA4, ← hA3, ← hA2, ← hA1] at t
  have r4 := pop_fin l0 l1 l2 l3 l4 l5 l6 l7 hA7 hA6 hA5 hA4 hA3 hA2 hA1 t hw
  rw [r4, p]
theorem pc_0 : ∀ n, pc n 0 = 0
  | 0 => rfl
  | n + 1 => by rw [pc, pc_0 n]
theorem pc_add : ∀ (k n m : Nat), k < n → m < 2 ^ k → pc n (2 ^ k + m) = pc n m + 1
  | 0, n, m, h1, h2 => by
    obtain ⟨n2, rfl⟩ : ∃ n2, n = n2 + 1 := ⟨n - 1, by omega⟩
    have : m = 0 := by simpa using h2
    subst this
    rw [pc_0, pc, show (2 ^ 0 + 0) / 2 = 0 by decide, pc_0]
  | k + 1, n, m, h1, h2 => by
    obtain ⟨n2, rfl⟩ : ∃ n2, n = n2 + 1 := ⟨n - 1, by omega⟩
    rw [Nat.pow_succ] at h2 ⊢
    rw [pc, pc, show (2 ^ k * 2 + m) / 2 = 2 ^ k + m / 2 by omega, show (2 ^ k * 2 + m) % 2 = m % 2 by omega, pc_add k n2 (m / 2) (by omega) (by omega)]
    omega
