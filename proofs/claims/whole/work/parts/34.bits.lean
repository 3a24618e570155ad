/-! bits of numbers that are not negative -/
theorem b64 (a : Nat) : (Int64.ofInt (a : Int)).toBitVec = BitVec.ofNat 64 a := by
  rw [Int64.toBitVec_ofInt, BitVec.ofInt_natCast]
theorem b64n {a : Nat} (h : a < 18446744073709551616) : (BitVec.ofNat 64 a).toNat = a := by
  rw [BitVec.toNat_ofNat]; exact Nat.mod_eq_of_lt h
theorem b64i {v : BitVec 64} {n : Nat} (h : v.toNat = n) (hn : n < 9223372036854775808) : v.toInt = (n : Int) := by
  rw [BitVec.toInt_eq_toNat_of_lt (by omega), h]
theorem sh64 : ∀ k : Fin 64, (((Int32.ofInt (k.val : Int)).toInt64 &&& 63).toBitVec.smod 64#64).toNat = k.val := by decide +kernel
theorem zlor_nat {a b : Nat} (ha : a < 9223372036854775808) (hb : b < 9223372036854775808) : zlor a b = ((a ||| b : Nat) : Int) := by
  have h : a ||| b < 2 ^ 63 := Nat.or_lt_two_pow (n := 63) ha hb
  show ((Int64.ofInt (a : Int)).toBitVec ||| (Int64.ofInt (b : Int)).toBitVec).toInt = _
  rw [b64, b64]
  refine b64i ?_ h
  rw [BitVec.toNat_or, b64n (by omega), b64n (by omega)]
theorem zland_nat {a b : Nat} (ha : a < 9223372036854775808) (hb : b < 9223372036854775808) : zland a b = ((a &&& b : Nat) : Int) := by
  have h : a &&& b < 2 ^ 63 := Nat.and_lt_two_pow (n := 63) a hb
  show ((Int64.ofInt (a : Int)).toBitVec &&& (Int64.ofInt (b : Int)).toBitVec).toInt = _
  rw [b64, b64]
  refine b64i ?_ h
  rw [BitVec.toNat_and, b64n (by omega), b64n (by omega)]
theorem zlshl_nat {a k : Nat} (hk : k < 64) (h : a * 2 ^ k < 9223372036854775808) (ha : a < 9223372036854775808) : zlshl a k = ((a * 2 ^ k : Nat) : Int) := by
  show ((Int64.ofInt (a : Int)).toBitVec <<< (((Int32.ofInt (k : Int)).toInt64 &&& 63).toBitVec.smod 64#64)).toInt = _
  rw [b64]
  refine b64i ?_ h
  rw [BitVec.shiftLeft_eq', sh64 ⟨k, hk⟩, BitVec.toNat_shiftLeft, b64n (by omega), Nat.shiftLeft_eq]
  exact Nat.mod_eq_of_lt (show a * 2 ^ k < 18446744073709551616 by omega)
theorem zlshr_nat {a k : Nat} (hk : k < 64) (ha : a < 9223372036854775808) : zlshr a k = ((a / 2 ^ k : Nat) : Int) := by
  have hm : (BitVec.ofNat 64 a).msb = false := by
    rw [BitVec.msb_eq_false_iff_two_mul_lt, b64n (by omega)]; omega
  show (BitVec.sshiftRight' (Int64.ofInt (a : Int)).toBitVec (((Int32.ofInt (k : Int)).toInt64 &&& 63).toBitVec.smod 64#64)).toInt = _
  rw [b64]
  have hd : a / 2 ^ k ≤ a := Nat.div_le_self _ _
  refine b64i ?_ (by omega)
  rw [BitVec.toNat_sshiftRight'_of_msb_false hm, sh64 ⟨k, hk⟩, b64n (by omega), Nat.shiftRight_eq_div_pow]
/-! fractions in one number -/
def pk (u d : Int) : Int := u * 4294967296 + d
theorem zpk {u d : Int} (h1 : 0 ≤ u) (h2 : u < 1000000) (h3 : 0 ≤ d) (h4 : d < 1000000) : zlor (zlshl u 32) d = pk u d := by
  obtain ⟨a, rfl⟩ := Int.eq_ofNat_of_zero_le h1
  obtain ⟨b, rfl⟩ := Int.eq_ofNat_of_zero_le h3
  have e1 : zlshl ((a : Nat) : Int) 32 = ((a * 2 ^ 32 : Nat) : Int) := zlshl_nat (k := 32) (by decide) (by omega) (by omega)
  rw [e1, zlor_nat (by omega) (by omega)]
  have e2 := Nat.shiftLeft_add_eq_or_of_lt (i := 32) (b := b) (by omega) a
  rw [Nat.shiftLeft_eq] at e2
  rw [← e2]
  unfold pk
  omega
theorem of_e (S : SZ) {u d : Int} (h1 : 0 ≤ u) (h2 : u < 1000000) (h3 : 0 ≤ d) (h4 : d < 1000000) : f_X2_of S u d = some (S, pk u d) := by
  unfold f_X2_of
  (repeat first | (with_reducible refine ev_let ?_) | (with_reducible refine ev_rng ?_ ?_ ?_; (first | omega | (simp (disch := omega) only [zi_ui, zi_ui', zl_ui, za_ui, zb_ui, zi_ul, zl_ul, zl_ul', za_ul, zb_ul, zi_ua, zl_ua, zb_ua, za_ua, za_ua', zi_ub, zl_ub, za_ub, zb_ub, zb_ub'] <;> omega)); (first | omega | (simp (disch := omega) only [zi_ui, zi_ui', zl_ui, za_ui, zb_ui, zi_ul, zl_ul, zl_ul', za_ul, zb_ul, zi_ua, zl_ua, zb_ua, za_ua, za_ua', zi_ub, zl_ub, za_ub, zb_ub, zb_ub'] <;> omega))) | (with_reducible refine ev_ins ?_ ?_ ?_; (first | omega | (simp (disch := omega) only [zi_ui, zi_ui', zl_ui, za_ui, zb_ui, zi_ul, zl_ul, zl_ul', za_ul, zb_ul, zi_ua, zl_ua, zb_ua, za_ua, za_ua', zi_ub, zl_ub, za_ub, zb_ub, zb_ub'] <;> omega)); (first | omega | (simp (disch := omega) only [zi_ui, zi_ui', zl_ui, za_ui, zb_ui, zi_ul, zl_ul, zl_ul', za_ul, zb_ul, zi_ua, zl_ua, zb_ua, za_ua, za_ua', zi_ub, zl_ub, za_ub, zb_ub, zb_ub'] <;> omega))) | (with_reducible refine ev_if1 ?_ ?_; (first | omega | (simp (disch := omega) only [zi_ui, zi_ui', zl_ui, za_ui, zb_ui, zi_ul, zl_ul, zl_ul', za_ul, zb_ul, zi_ua, zl_ua, zb_ua, za_ua, za_ua', zi_ub, zl_ub, za_ub, zb_ub, zb_ub'] <;> omega))) | (with_reducible refine ev_if0 ?_ ?_; (first | omega | (simp (disch := omega) only [zi_ui, zi_ui', zl_ui, za_ui, zb_ui, zi_ul, zl_ul, zl_ul', za_ul, zb_ul, zi_ua, zl_ua, zb_ua, za_ua, za_ua', zi_ub, zl_ub, za_ub, zb_ub, zb_ub'] <;> omega))) | (with_reducible refine ev_rnl ?_ ?_ ?_; (first | omega | (simp (disch := omega) only [zi_ui, zi_ui', zl_ui, za_ui, zb_ui, zi_ul, zl_ul, zl_ul', za_ul, zb_ul, zi_ua, zl_ua, zb_ua, za_ua, za_ua', zi_ub, zl_ub, za_ub, zb_ub, zb_ub'] <;> omega)); (first | omega | (simp (disch := omega) only [zi_ui, zi_ui', zl_ui, za_ui, zb_ui, zi_ul, zl_ul, zl_ul', za_ul, zb_ul, zi_ua, zl_ua, zb_ua, za_ua, za_ua', zi_ub, zl_ub, za_ub, zb_ub, zb_ub'] <;> omega))) | (with_reducible refine ev_ne ?_ ?_; (first | omega | (simp (disch := omega) only [zi_ui, zi_ui', zl_ui, za_ui, zb_ui, zi_ul, zl_ul, zl_ul', za_ul, zb_ul, zi_ua, zl_ua, zb_ua, za_ua, za_ua', zi_ub, zl_ub, za_ub, zb_ub, zb_ub'] <;> omega))) | (with_reducible refine ev_01 ?_ ?_; (first | omega | (simp (disch := omega) only [zi_ui, zi_ui', zl_ui, za_ui, zb_ui, zi_ul, zl_ul, zl_ul', za_ul, zb_ul, zi_ua, zl_ua, zb_ua, za_ua, za_ua', zi_ub, zl_ub, za_ub, zb_ub, zb_ub'] <;> omega))))
  rw [zpk h1 h2 h3 h4]
theorem pk_up {u d : Int} (h1 : 0 ≤ u) (h2 : u < 1000000) (h3 : 0 ≤ d) (h4 : d < 1000000) : zlshr (pk u d) 32 = u := by
  obtain ⟨a, rfl⟩ := Int.eq_ofNat_of_zero_le h1
  obtain ⟨b, rfl⟩ := Int.eq_ofNat_of_zero_le h3
  have e : pk (a : Int) (b : Int) = ((a * 4294967296 + b : Nat) : Int) := by unfold pk; omega
  rw [e]
  have e1 : zlshr ((a * 4294967296 + b : Nat) : Int) 32 = (((a * 4294967296 + b) / 2 ^ 32 : Nat) : Int) := zlshr_nat (k := 32) (by decide) (by omega)
  rw [e1]
  omega
theorem pk_dn {u d : Int} (h1 : 0 ≤ u) (h2 : u < 1000000) (h3 : 0 ≤ d) (h4 : d < 1000000) : zl2i (pk u d) = d := by
  unfold zl2i pk
  rw [Int.bmod_def]
  split <;> omega
theorem zl2i_e {x : Int} (h : rng x) : zl2i x = x := by
  unfold zl2i
  exact Int.bmod_eq_of_le (by omega) (by omega)
theorem pk_inj {u d u2 d2 : Int} (h3 : 0 ≤ d) (h4 : d < 1000000) (h5 : 0 ≤ d2) (h6 : d2 < 1000000) : pk u d = pk u2 d2 ↔ u = u2 ∧ d = d2 := by
  unfold pk
  constructor
  · intro h; omega
  · rintro ⟨rfl, rfl⟩; rfl
/-- fractions as they are used -/
def fr (u d : Int) : Prop := 0 ≤ u ∧ u < 200000 ∧ 0 < d ∧ d < 200000
theorem less_1 (S : SZ) {u d u2 d2 : Int} (h1 : fr u d) (h2 : fr u2 d2) (h : u * d2 < u2 * d) : f_X2_less S (pk u d) (pk u2 d2) = some (S, 1) := by
  obtain ⟨a1, a2, a3, a4⟩ := h1
  obtain ⟨b1, b2, b3, b4⟩ := h2
  have m1 := mb (x := u) (y := d2) (A := 200000) (B := 200000) (by omega) (by omega) (by omega) (by omega)
  have m2 := mb (x := u2) (y := d) (A := 200000) (B := 200000) (by omega) (by omega) (by omega) (by omega)
  unfold f_X2_less
  rw [pk_up a1 (by omega) (by omega) (by omega), pk_dn a1 (by omega) (by omega) (by omega), pk_up b1 (by omega) (by omega) (by omega), pk_dn b1 (by omega) (by omega) (by omega)]
  (repeat first | (with_reducible refine ev_let ?_) | (with_reducible refine ev_rng ?_ ?_ ?_; (first | omega | (simp (disch := omega) only [zi_ui, zi_ui', zl_ui, za_ui, zb_ui, zi_ul, zl_ul, zl_ul', za_ul, zb_ul, zi_ua, zl_ua, zb_ua, za_ua, za_ua', zi_ub, zl_ub, za_ub, zb_ub, zb_ub'] <;> omega)); (first | omega | (simp (disch := omega) only [zi_ui, zi_ui', zl_ui, za_ui, zb_ui, zi_ul, zl_ul, zl_ul', za_ul, zb_ul, zi_ua, zl_ua, zb_ua, za_ua, za_ua', zi_ub, zl_ub, za_ub, zb_ub, zb_ub'] <;> omega))) | (with_reducible refine ev_ins ?_ ?_ ?_; (first | omega | (simp (disch := omega) only [zi_ui, zi_ui', zl_ui, za_ui, zb_ui, zi_ul, zl_ul, zl_ul', za_ul, zb_ul, zi_ua, zl_ua, zb_ua, za_ua, za_ua', zi_ub, zl_ub, za_ub, zb_ub, zb_ub'] <;> omega)); (first | omega | (simp (disch := omega) only [zi_ui, zi_ui', zl_ui, za_ui, zb_ui, zi_ul, zl_ul, zl_ul', za_ul, zb_ul, zi_ua, zl_ua, zb_ua, za_ua, za_ua', zi_ub, zl_ub, za_ub, zb_ub, zb_ub'] <;> omega))) | (with_reducible refine ev_if1 ?_ ?_; (first | omega | (simp (disch := omega) only [zi_ui, zi_ui', zl_ui, za_ui, zb_ui, zi_ul, zl_ul, zl_ul', za_ul, zb_ul, zi_ua, zl_ua, zb_ua, za_ua, za_ua', zi_ub, zl_ub, za_ub, zb_ub, zb_ub'] <;> omega))) | (with_reducible refine ev_if0 ?_ ?_; (first | omega | (simp (disch := omega) only [zi_ui, zi_ui', zl_ui, za_ui, zb_ui, zi_ul, zl_ul, zl_ul', za_ul, zb_ul, zi_ua, zl_ua, zb_ua, za_ua, za_ua', zi_ub, zl_ub, za_ub, zb_ub, zb_ub'] <;> omega))) | (with_reducible refine ev_rnl ?_ ?_ ?_; (first | omega | (simp (disch := omega) only [zi_ui, zi_ui', zl_ui, za_ui, zb_ui, zi_ul, zl_ul, zl_ul', za_ul, zb_ul, zi_ua, zl_ua, zb_ua, za_ua, za_ua', zi_ub, zl_ub, za_ub, zb_ub, zb_ub'] <;> omega)); (first | omega | (simp (disch := omega) only [zi_ui, zi_ui', zl_ui, za_ui, zb_ui, zi_ul, zl_ul, zl_ul', za_ul, zb_ul, zi_ua, zl_ua, zb_ua, za_ua, za_ua', zi_ub, zl_ub, za_ub, zb_ub, zb_ub'] <;> omega))) | (with_reducible refine ev_ne ?_ ?_; (first | omega | (simp (disch := omega) only [zi_ui, zi_ui', zl_ui, za_ui, zb_ui, zi_ul, zl_ul, zl_ul', za_ul, zb_ul, zi_ua, zl_ua, zb_ua, za_ua, za_ua', zi_ub, zl_ub, za_ub, zb_ub, zb_ub'] <;> omega))) | (with_reducible refine ev_01 ?_ ?_; (first | omega | (simp (disch := omega) only [zi_ui, zi_ui', zl_ui, za_ui, zb_ui, zi_ul, zl_ul, zl_ul', za_ul, zb_ul, zi_ua, zl_ua, zb_ua, za_ua, za_ua', zi_ub, zl_ub, za_ub, zb_ub, zb_ub'] <;> omega))))
  rfl
theorem less_0 (S : SZ) {u d u2 d2 : Int} (h1 : fr u d) (h2 : fr u2 d2) (h : ¬ u * d2 < u2 * d) : f_X2_less S (pk u d) (pk u2 d2) = some (S, 0) := by
  obtain ⟨a1, a2, a3, a4⟩ := h1
  obtain ⟨b1, b2, b3, b4⟩ := h2
  have m1 := mb (x := u) (y := d2) (A := 200000) (B := 200000) (by omega) (by omega) (by omega) (by omega)
  have m2 := mb (x := u2) (y := d) (A := 200000) (B := 200000) (by omega) (by omega) (by omega) (by omega)
  unfold f_X2_less
  rw [pk_up a1 (by omega) (by omega) (by omega), pk_dn a1 (by omega) (by omega) (by omega), pk_up b1 (by omega) (by omega) (by omega), pk_dn b1 (by omega) (by omega) (by omega)]
  (repeat first | (with_reducible refine ev_let ?_) | (with_reducible refine ev_rng ?_ ?_ ?_; (first | omega | (simp (disch := omega) only [zi_ui, zi_ui', zl_ui, za_ui, zb_ui, zi_ul, zl_ul, zl_ul', za_ul, zb_ul, zi_ua, zl_ua, zb_ua, za_ua, za_ua', zi_ub, zl_ub, za_ub, zb_ub, zb_ub'] <;> omega)); (first | omega | (simp (disch := omega) only [zi_ui, zi_ui', zl_ui, za_ui, zb_ui, zi_ul, zl_ul, zl_ul', za_ul, zb_ul, zi_ua, zl_ua, zb_ua, za_ua, za_ua', zi_ub, zl_ub, za_ub, zb_ub, zb_ub'] <;> omega))) | (with_reducible refine ev_ins ?_ ?_ ?_; (first | omega | (simp (disch := omega) only [zi_ui, zi_ui', zl_ui, za_ui, zb_ui, zi_ul, zl_ul, zl_ul', za_ul, zb_ul, zi_ua, zl_ua, zb_ua, za_ua, za_ua', zi_ub, zl_ub, za_ub, zb_ub, zb_ub'] <;> omega)); (first | omega | (simp (disch := omega) only [zi_ui, zi_ui', zl_ui, za_ui, zb_ui, zi_ul, zl_ul, zl_ul', za_ul, zb_ul, zi_ua, zl_ua, zb_ua, za_ua, za_ua', zi_ub, zl_ub, za_ub, zb_ub, zb_ub'] <;> omega))) | (with_reducible refine ev_if1 ?_ ?_; (first | omega | (simp (disch := omega) only [zi_ui, zi_ui', zl_ui, za_ui, zb_ui, zi_ul, zl_ul, zl_ul', za_ul, zb_ul, zi_ua, zl_ua, zb_ua, za_ua, za_ua', zi_ub, zl_ub, za_ub, zb_ub, zb_ub'] <;> omega))) | (with_reducible refine ev_if0 ?_ ?_; (first | omega | (simp (disch := omega) only [zi_ui, zi_ui', zl_ui, za_ui, zb_ui, zi_ul, zl_ul, zl_ul', za_ul, zb_ul, zi_ua, zl_ua, zb_ua, za_ua, za_ua', zi_ub, zl_ub, za_ub, zb_ub, zb_ub'] <;> omega))) | (with_reducible refine ev_rnl ?_ ?_ ?_; (first | omega | (simp (disch := omega) only [zi_ui, zi_ui', zl_ui, za_ui, zb_ui, zi_ul, zl_ul, zl_ul', za_ul, zb_ul, zi_ua, zl_ua, zb_ua, za_ua, za_ua', zi_ub, zl_ub, za_ub, zb_ub, zb_ub'] <;> omega)); (first | omega | (simp (disch := omega) only [zi_ui, zi_ui', zl_ui, za_ui, zb_ui, zi_ul, zl_ul, zl_ul', za_ul, zb_ul, zi_ua, zl_ua, zb_ua, za_ua, za_ua', zi_ub, zl_ub, za_ub, zb_ub, zb_ub'] <;> omega))) | (with_reducible refine ev_ne ?_ ?_; (first | omega | (simp (disch := omega) only [zi_ui, zi_ui', zl_ui, za_ui, zb_ui, zi_ul, zl_ul, zl_ul', za_ul, zb_ul, zi_ua, zl_ua, zb_ua, za_ua, za_ua', zi_ub, zl_ub, za_ub, zb_ub, zb_ub'] <;> omega))) | (with_reducible refine ev_01 ?_ ?_; (first | omega | (simp (disch := omega) only [zi_ui, zi_ui', zl_ui, za_ui, zb_ui, zi_ul, zl_ul, zl_ul', za_ul, zb_ul, zi_ua, zl_ua, zb_ua, za_ua, za_ua', zi_ub, zl_ub, za_ub, zb_ub, zb_ub'] <;> omega))))
  rfl
