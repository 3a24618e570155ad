/-! STROKES: counts, bits, the pen -/
def cnt (P : Nat → Bool) : Nat → Nat
  | 0 => 0
  | k + 1 => cnt P k + (P k).toNat
theorem cnt_cg {P R : Nat → Bool} : ∀ n, (∀ j, j < n → P j = R j) → cnt P n = cnt R n
  | 0, _ => rfl
  | n + 1, h => by rw [cnt, cnt, cnt_cg n (fun j hj => h j (by omega)), h n (by omega)]
theorem cnt_rm {P R : Nat → Bool} {k : Nat} : ∀ n, k < n → P k = true → R k = false → (∀ j, j ≠ k → R j = P j) → cnt R n + 1 = cnt P n
  | 0, h, _, _, _ => absurd h (by omega)
  | n + 1, h, h1, h2, h3 => by
    rw [cnt, cnt]
    by_cases hk : k = n
    · subst hk
      rw [cnt_cg (P := R) (R := P) k (fun j hj => h3 j (by omega)), h1, h2]; rfl
    · have := cnt_rm n (by omega) h1 h2 h3
      rw [h3 n (by omega)]
      omega
theorem cnt_0 {P : Nat → Bool} : ∀ n, cnt P n = 0 → ∀ j, j < n → P j = false
  | 0, _, j, hj => absurd hj (by omega)
  | n + 1, h, j, hj => by
    rw [cnt] at h
    by_cases hjn : j = n
    · subst hjn
      cases hp : P j with
      | false => rfl
      | true => rw [hp] at h; simp at h
    · exact cnt_0 n (by omega) j (by omega)
theorem cnt_inj : ∀ (m : Nat) (P : Nat → Bool) (n : Nat) (h : Nat → Nat), (∀ j, j < n → P j = true → h j < m) → (∀ i j, i < n → j < n → P i = true → P j = true → h i = h j → i = j) → cnt P n ≤ m
  | 0, P, n, h, h1, h2 => by
    have : ∀ k, k ≤ n → cnt P k = 0 := by
      intro k
      induction k with
      | zero => intro _; rfl
      | succ k ih =>
        intro hk
        rw [cnt, ih (by omega)]
        cases hp : P k with
        | false => rfl
        | true => exact absurd (h1 k (by omega) hp) (by omega)
    rw [this n (Nat.le_refl _)]
    omega
  | m + 1, P, n, h, h1, h2 => by
    by_cases hx : ∃ i, i < n ∧ P i = true ∧ h i = m
    · obtain ⟨i, i1, i2, i3⟩ := hx
      have hr := cnt_rm (P := P) (R := fun j => P j && decide (j ≠ i)) (k := i) n i1 i2 (by simp) (by intro j hj; simp [hj])
      have := cnt_inj m (fun j => P j && decide (j ≠ i)) n h (by
        intro j hj hp
        simp only [Bool.and_eq_true, decide_eq_true_eq] at hp
        have a := h1 j hj hp.1
        have : h j ≠ m := fun e => hp.2 (h2 j i hj i1 hp.1 i2 (by rw [e, i3]))
        omega) (by
        intro a b ha hb pa pb e
        simp only [Bool.and_eq_true] at pa pb
        exact h2 a b ha hb pa.1 pb.1 e)
      omega
    · have := cnt_inj m P n h (fun j hj hp => by
        have a := h1 j hj hp
        have : h j ≠ m := fun e => hx ⟨j, hj, hp, e⟩
        omega) h2
      omega
def tot (F : Nat → Nat) : Nat → Nat
  | 0 => 0
  | e + 1 => tot F e + F e
theorem tot_cg {F G : Nat → Nat} : ∀ n, (∀ j, j < n → F j = G j) → tot F n = tot G n
  | 0, _ => rfl
  | n + 1, h => by rw [tot, tot, tot_cg n (fun j hj => h j (by omega)), h n (by omega)]
theorem tot_rm {F G : Nat → Nat} {e : Nat} : ∀ n, e < n → G e + 1 = F e → (∀ j, j ≠ e → G j = F j) → tot G n + 1 = tot F n
  | 0, h, _, _ => absurd h (by omega)
  | n + 1, h, h1, h3 => by
    rw [tot, tot]
    by_cases hk : e = n
    · subst hk
      rw [tot_cg (F := G) (G := F) e (fun j hj => h3 j (by omega))]; omega
    · have := tot_rm n (by omega) h1 h3
      rw [h3 n (by omega)]
      omega
theorem tot_0 {F : Nat → Nat} : ∀ n, tot F n = 0 → ∀ j, j < n → F j = 0
  | 0, _, j, hj => absurd hj (by omega)
  | n + 1, h, j, hj => by
    rw [tot] at h
    by_cases hjn : j = n
    · subst hjn; omega
    · exact tot_0 n (by omega) j (by omega)
theorem tot_le {F : Nat → Nat} {b : Nat} : ∀ n, (∀ j, j < n → F j ≤ b) → tot F n ≤ b * n
  | 0, _ => Nat.zero_le _
  | n + 1, h => by
    have := tot_le n (fun j hj => h j (by omega))
    have := h n (by omega)
    rw [tot, Nat.mul_succ]; omega
/-! numbers of 32 bits -/
theorem b32 (a : Nat) : (Int32.ofInt (a : Int)).toBitVec = BitVec.ofNat 32 a := by
  rw [Int32.toBitVec_ofInt, BitVec.ofInt_natCast]
theorem b32n {a : Nat} (h : a < 4294967296) : (BitVec.ofNat 32 a).toNat = a := by
  rw [BitVec.toNat_ofNat]; exact Nat.mod_eq_of_lt h
theorem b32i {v : BitVec 32} {n : Nat} (h : v.toNat = n) (hn : n < 2147483648) : v.toInt = (n : Int) := by
  rw [BitVec.toInt_eq_toNat_of_lt (by omega), h]
theorem sh32 : ∀ k : Fin 32, ((Int32.ofInt (k.val : Int) &&& 31).toBitVec.smod 32#32).toNat = k.val := by decide +kernel
theorem zior_nat {a b : Nat} (ha : a < 2147483648) (hb : b < 2147483648) : zior a b = ((a ||| b : Nat) : Int) := by
  have h : a ||| b < 2 ^ 31 := Nat.or_lt_two_pow (n := 31) ha hb
  show ((Int32.ofInt (a : Int)).toBitVec ||| (Int32.ofInt (b : Int)).toBitVec).toInt = _
  rw [b32, b32]
  refine b32i ?_ h
  rw [BitVec.toNat_or, b32n (by omega), b32n (by omega)]
theorem ziand_nat {a b : Nat} (ha : a < 2147483648) (hb : b < 2147483648) : ziand a b = ((a &&& b : Nat) : Int) := by
  have h : a &&& b < 2 ^ 31 := Nat.and_lt_two_pow (n := 31) a hb
  show ((Int32.ofInt (a : Int)).toBitVec &&& (Int32.ofInt (b : Int)).toBitVec).toInt = _
  rw [b32, b32]
  refine b32i ?_ h
  rw [BitVec.toNat_and, b32n (by omega), b32n (by omega)]
theorem zishl_nat {a k : Nat} (hk : k < 32) (h : a * 2 ^ k < 2147483648) (ha : a < 2147483648) : zishl a k = ((a * 2 ^ k : Nat) : Int) := by
  show ((Int32.ofInt (a : Int)).toBitVec <<< ((Int32.ofInt (k : Int) &&& 31).toBitVec.smod 32#32)).toInt = _
  rw [b32]
  refine b32i ?_ h
  rw [BitVec.shiftLeft_eq', sh32 ⟨k, hk⟩, BitVec.toNat_shiftLeft, b32n (by omega), Nat.shiftLeft_eq]
  exact Nat.mod_eq_of_lt (show a * 2 ^ k < 4294967296 by omega)
theorem zishr_nat {a k : Nat} (hk : k < 32) (ha : a < 2147483648) : zishr a k = ((a / 2 ^ k : Nat) : Int) := by
  have hm : (BitVec.ofNat 32 a).msb = false := by
    rw [BitVec.msb_eq_false_iff_two_mul_lt, b32n (by omega)]; omega
  show (BitVec.sshiftRight' (Int32.ofInt (a : Int)).toBitVec ((Int32.ofInt (k : Int) &&& 31).toBitVec.smod 32#32)).toInt = _
  rw [b32]
  have hd : a / 2 ^ k ≤ a := Nat.div_le_self _ _
  refine b32i ?_ (by omega)
  rw [BitVec.toNat_sshiftRight'_of_msb_false hm, sh32 ⟨k, hk⟩, b32n (by omega), Nat.shiftRight_eq_div_pow]
/-- a step in one number -/
def stc (e k o : Nat) : Nat := 128 * e + 2 * k + o
theorem stepOf_e (S : SZ) {e k o : Nat} (he : e < 80) (hk : k < 50) (ho : o = 0 ∨ o = 1) : f_X7_stepOf S e k o = some (S, (stc e k o : Int)) := by
  have e1 : zishl (e : Int) 7 = ((e * 2 ^ 7 : Nat) : Int) := zishl_nat (k := 7) (by decide) (by omega) (by omega)
  have e2 : zishl (k : Int) 1 = ((k * 2 ^ 1 : Nat) : Int) := zishl_nat (k := 1) (by decide) (by omega) (by omega)
  have e3 : zior ((e * 2 ^ 7 : Nat) : Int) ((k * 2 ^ 1 : Nat) : Int) = ((e * 2 ^ 7 + k * 2 ^ 1 : Nat) : Int) := by
    rw [zior_nat (by omega) (by omega)]
    have := Nat.shiftLeft_add_eq_or_of_lt (i := 7) (b := k * 2 ^ 1) (by omega) e
    rw [Nat.shiftLeft_eq] at this
    rw [this]
  have e4 : ∀ o2 : Nat, o2 < 2 → zior ((e * 2 ^ 7 + k * 2 ^ 1 : Nat) : Int) (o2 : Int) = ((e * 2 ^ 7 + k * 2 ^ 1 + o2 : Nat) : Int) := by
    intro o2 h2
    rw [zior_nat (by omega) (by omega)]
    have := Nat.shiftLeft_add_eq_or_of_lt (i := 1) (b := o2) (by omega) (e * 2 ^ 6 + k)
    rw [Nat.shiftLeft_eq, show (e * 2 ^ 6 + k) * 2 ^ 1 = e * 2 ^ 7 + k * 2 ^ 1 by omega] at this
    rw [this]
  have e40 := e4 0 (by omega)
  have e41 := e4 1 (by omega)
  unfold f_X7_stepOf stc
  rcases ho with rfl | rfl
  · (repeat first | (with_reducible refine ev_let ?_) | (with_reducible refine ev_rng ?_ ?_ ?_; (first | omega | (simp (disch := omega) only [zi_ui, zi_ui', zl_ui, za_ui, zb_ui, zi_ul, zl_ul, zl_ul', za_ul, zb_ul, zi_ua, zl_ua, zb_ua, za_ua, za_ua', zi_ub, zl_ub, za_ub, zb_ub, zb_ub'] <;> omega)); (first | omega | (simp (disch := omega) only [zi_ui, zi_ui', zl_ui, za_ui, zb_ui, zi_ul, zl_ul, zl_ul', za_ul, zb_ul, zi_ua, zl_ua, zb_ua, za_ua, za_ua', zi_ub, zl_ub, za_ub, zb_ub, zb_ub'] <;> omega))) | (with_reducible refine ev_ins ?_ ?_ ?_; (first | omega | (simp (disch := omega) only [zi_ui, zi_ui', zl_ui, za_ui, zb_ui, zi_ul, zl_ul, zl_ul', za_ul, zb_ul, zi_ua, zl_ua, zb_ua, za_ua, za_ua', zi_ub, zl_ub, za_ub, zb_ub, zb_ub'] <;> omega)); (first | omega | (simp (disch := omega) only [zi_ui, zi_ui', zl_ui, za_ui, zb_ui, zi_ul, zl_ul, zl_ul', za_ul, zb_ul, zi_ua, zl_ua, zb_ua, za_ua, za_ua', zi_ub, zl_ub, za_ub, zb_ub, zb_ub'] <;> omega))) | (with_reducible refine ev_if1 ?_ ?_; (first | omega | (simp (disch := omega) only [zi_ui, zi_ui', zl_ui, za_ui, zb_ui, zi_ul, zl_ul, zl_ul', za_ul, zb_ul, zi_ua, zl_ua, zb_ua, za_ua, za_ua', zi_ub, zl_ub, za_ub, zb_ub, zb_ub'] <;> omega))) | (with_reducible refine ev_if0 ?_ ?_; (first | omega | (simp (disch := omega) only [zi_ui, zi_ui', zl_ui, za_ui, zb_ui, zi_ul, zl_ul, zl_ul', za_ul, zb_ul, zi_ua, zl_ua, zb_ua, za_ua, za_ua', zi_ub, zl_ub, za_ub, zb_ub, zb_ub'] <;> omega))) | (with_reducible refine ev_rnl ?_ ?_ ?_; (first | omega | (simp (disch := omega) only [zi_ui, zi_ui', zl_ui, za_ui, zb_ui, zi_ul, zl_ul, zl_ul', za_ul, zb_ul, zi_ua, zl_ua, zb_ua, za_ua, za_ua', zi_ub, zl_ub, za_ub, zb_ub, zb_ub'] <;> omega)); (first | omega | (simp (disch := omega) only [zi_ui, zi_ui', zl_ui, za_ui, zb_ui, zi_ul, zl_ul, zl_ul', za_ul, zb_ul, zi_ua, zl_ua, zb_ua, za_ua, za_ua', zi_ub, zl_ub, za_ub, zb_ub, zb_ub'] <;> omega))) | (with_reducible refine ev_ne ?_ ?_; (first | omega | (simp (disch := omega) only [zi_ui, zi_ui', zl_ui, za_ui, zb_ui, zi_ul, zl_ul, zl_ul', za_ul, zb_ul, zi_ua, zl_ua, zb_ua, za_ua, za_ua', zi_ub, zl_ub, za_ub, zb_ub, zb_ub'] <;> omega))) | (with_reducible refine ev_01 ?_ ?_; (first | omega | (simp (disch := omega) only [zi_ui, zi_ui', zl_ui, za_ui, zb_ui, zi_ul, zl_ul, zl_ul', za_ul, zb_ul, zi_ua, zl_ua, zb_ua, za_ua, za_ua', zi_ub, zl_ub, za_ub, zb_ub, zb_ub'] <;> omega))))
    have e40' : zior ((e * 2 ^ 7 + k * 2 ^ 1 : Nat) : Int) 0 = ((e * 2 ^ 7 + k * 2 ^ 1 + 0 : Nat) : Int) := e40
    rw [e1, e2, e3, e40']
    congr 2
    omega
  · (repeat first | (with_reducible refine ev_let ?_) | (with_reducible refine ev_rng ?_ ?_ ?_; (first | omega | (simp (disch := omega) only [zi_ui, zi_ui', zl_ui, za_ui, zb_ui, zi_ul, zl_ul, zl_ul', za_ul, zb_ul, zi_ua, zl_ua, zb_ua, za_ua, za_ua', zi_ub, zl_ub, za_ub, zb_ub, zb_ub'] <;> omega)); (first | omega | (simp (disch := omega) only [zi_ui, zi_ui', zl_ui, za_ui, zb_ui, zi_ul, zl_ul, zl_ul', za_ul, zb_ul, zi_ua, zl_ua, zb_ua, za_ua, za_ua', zi_ub, zl_ub, za_ub, zb_ub, zb_ub'] <;> omega))) | (with_reducible refine ev_ins ?_ ?_ ?_; (first | omega | (simp (disch := omega) only [zi_ui, zi_ui', zl_ui, za_ui, zb_ui, zi_ul, zl_ul, zl_ul', za_ul, zb_ul, zi_ua, zl_ua, zb_ua, za_ua, za_ua', zi_ub, zl_ub, za_ub, zb_ub, zb_ub'] <;> omega)); (first | omega | (simp (disch := omega) only [zi_ui, zi_ui', zl_ui, za_ui, zb_ui, zi_ul, zl_ul, zl_ul', za_ul, zb_ul, zi_ua, zl_ua, zb_ua, za_ua, za_ua', zi_ub, zl_ub, za_ub, zb_ub, zb_ub'] <;> omega))) | (with_reducible refine ev_if1 ?_ ?_; (first | omega | (simp (disch := omega) only [zi_ui, zi_ui', zl_ui, za_ui, zb_ui, zi_ul, zl_ul, zl_ul', za_ul, zb_ul, zi_ua, zl_ua, zb_ua, za_ua, za_ua', zi_ub, zl_ub, za_ub, zb_ub, zb_ub'] <;> omega))) | (with_reducible refine ev_if0 ?_ ?_; (first | omega | (simp (disch := omega) only [zi_ui, zi_ui', zl_ui, za_ui, zb_ui, zi_ul, zl_ul, zl_ul', za_ul, zb_ul, zi_ua, zl_ua, zb_ua, za_ua, za_ua', zi_ub, zl_ub, za_ub, zb_ub, zb_ub'] <;> omega))) | (with_reducible refine ev_rnl ?_ ?_ ?_; (first | omega | (simp (disch := omega) only [zi_ui, zi_ui', zl_ui, za_ui, zb_ui, zi_ul, zl_ul, zl_ul', za_ul, zb_ul, zi_ua, zl_ua, zb_ua, za_ua, za_ua', zi_ub, zl_ub, za_ub, zb_ub, zb_ub'] <;> omega)); (first | omega | (simp (disch := omega) only [zi_ui, zi_ui', zl_ui, za_ui, zb_ui, zi_ul, zl_ul, zl_ul', za_ul, zb_ul, zi_ua, zl_ua, zb_ua, za_ua, za_ua', zi_ub, zl_ub, za_ub, zb_ub, zb_ub'] <;> omega))) | (with_reducible refine ev_ne ?_ ?_; (first | omega | (simp (disch := omega) only [zi_ui, zi_ui', zl_ui, za_ui, zb_ui, zi_ul, zl_ul, zl_ul', za_ul, zb_ul, zi_ua, zl_ua, zb_ua, za_ua, za_ua', zi_ub, zl_ub, za_ub, zb_ub, zb_ub'] <;> omega))) | (with_reducible refine ev_01 ?_ ?_; (first | omega | (simp (disch := omega) only [zi_ui, zi_ui', zl_ui, za_ui, zb_ui, zi_ul, zl_ul, zl_ul', za_ul, zb_ul, zi_ua, zl_ua, zb_ua, za_ua, za_ua', zi_ub, zl_ub, za_ub, zb_ub, zb_ub'] <;> omega))))
    have e41' : zior ((e * 2 ^ 7 + k * 2 ^ 1 : Nat) : Int) 1 = ((e * 2 ^ 7 + k * 2 ^ 1 + 1 : Nat) : Int) := e41
    rw [e1, e2, e3, e41']
    congr 2
    omega
theorem edgeOf_e (S : SZ) {e k o : Nat} (he : e < 80) (hk : k < 50) (ho : o < 2) : f_X7_edgeOf S (stc e k o : Int) = some (S, (e : Int)) := by
  have e1 : zishr ((stc e k o : Nat) : Int) 7 = ((stc e k o / 2 ^ 7 : Nat) : Int) := zishr_nat (k := 7) (by decide) (by unfold stc; omega)
  unfold f_X7_edgeOf
  rw [e1, show stc e k o / 2 ^ 7 = e by unfold stc; omega]
theorem pieceOf_e (S : SZ) {e k o : Nat} (he : e < 80) (hk : k < 50) (ho : o < 2) : f_X7_pieceOf S (stc e k o : Int) = some (S, (k : Int)) := by
  have e1 : zishr ((stc e k o : Nat) : Int) 1 = ((stc e k o / 2 ^ 1 : Nat) : Int) := zishr_nat (k := 1) (by decide) (by unfold stc; omega)
  have e2 : ziand ((stc e k o / 2 ^ 1 : Nat) : Int) 63 = ((stc e k o / 2 ^ 1 &&& 63 : Nat) : Int) := ziand_nat (b := 63) (by unfold stc; omega) (by omega)
  have e3 : stc e k o / 2 ^ 1 &&& 63 = stc e k o / 2 ^ 1 % 64 := Nat.and_two_pow_sub_one_eq_mod _ 6
  unfold f_X7_pieceOf
  rw [e1, e2, e3, show stc e k o / 2 ^ 1 % 64 = k by unfold stc; omega]
theorem isForward_e (S : SZ) {e k o : Nat} (he : e < 80) (hk : k < 50) (ho : o < 2) : f_X7_isForward S (stc e k o : Int) = some (S, (o : Int)) := by
  have e2 : ziand ((stc e k o : Nat) : Int) 1 = ((stc e k o &&& 1 : Nat) : Int) := ziand_nat (b := 1) (by unfold stc; omega) (by omega)
  have e3 : stc e k o &&& 1 = stc e k o % 2 := Nat.and_two_pow_sub_one_eq_mod _ 1
  unfold f_X7_isForward
  rw [e2, e3, show stc e k o % 2 = o by unfold stc; omega]
  by_cases h : o = 1
  · subst h
    (repeat first | (with_reducible refine ev_let ?_) | (with_reducible refine ev_rng ?_ ?_ ?_; (first | omega | (simp (disch := omega) only [zi_ui, zi_ui', zl_ui, za_ui, zb_ui, zi_ul, zl_ul, zl_ul', za_ul, zb_ul, zi_ua, zl_ua, zb_ua, za_ua, za_ua', zi_ub, zl_ub, za_ub, zb_ub, zb_ub'] <;> omega)); (first | omega | (simp (disch := omega) only [zi_ui, zi_ui', zl_ui, za_ui, zb_ui, zi_ul, zl_ul, zl_ul', za_ul, zb_ul, zi_ua, zl_ua, zb_ua, za_ua, za_ua', zi_ub, zl_ub, za_ub, zb_ub, zb_ub'] <;> omega))) | (with_reducible refine ev_ins ?_ ?_ ?_; (first | omega | (simp (disch := omega) only [zi_ui, zi_ui', zl_ui, za_ui, zb_ui, zi_ul, zl_ul, zl_ul', za_ul, zb_ul, zi_ua, zl_ua, zb_ua, za_ua, za_ua', zi_ub, zl_ub, za_ub, zb_ub, zb_ub'] <;> omega)); (first | omega | (simp (disch := omega) only [zi_ui, zi_ui', zl_ui, za_ui, zb_ui, zi_ul, zl_ul, zl_ul', za_ul, zb_ul, zi_ua, zl_ua, zb_ua, za_ua, za_ua', zi_ub, zl_ub, za_ub, zb_ub, zb_ub'] <;> omega))) | (with_reducible refine ev_if1 ?_ ?_; (first | omega | (simp (disch := omega) only [zi_ui, zi_ui', zl_ui, za_ui, zb_ui, zi_ul, zl_ul, zl_ul', za_ul, zb_ul, zi_ua, zl_ua, zb_ua, za_ua, za_ua', zi_ub, zl_ub, za_ub, zb_ub, zb_ub'] <;> omega))) | (with_reducible refine ev_if0 ?_ ?_; (first | omega | (simp (disch := omega) only [zi_ui, zi_ui', zl_ui, za_ui, zb_ui, zi_ul, zl_ul, zl_ul', za_ul, zb_ul, zi_ua, zl_ua, zb_ua, za_ua, za_ua', zi_ub, zl_ub, za_ub, zb_ub, zb_ub'] <;> omega))) | (with_reducible refine ev_rnl ?_ ?_ ?_; (first | omega | (simp (disch := omega) only [zi_ui, zi_ui', zl_ui, za_ui, zb_ui, zi_ul, zl_ul, zl_ul', za_ul, zb_ul, zi_ua, zl_ua, zb_ua, za_ua, za_ua', zi_ub, zl_ub, za_ub, zb_ub, zb_ub'] <;> omega)); (first | omega | (simp (disch := omega) only [zi_ui, zi_ui', zl_ui, za_ui, zb_ui, zi_ul, zl_ul, zl_ul', za_ul, zb_ul, zi_ua, zl_ua, zb_ua, za_ua, za_ua', zi_ub, zl_ub, za_ub, zb_ub, zb_ub'] <;> omega))) | (with_reducible refine ev_ne ?_ ?_; (first | omega | (simp (disch := omega) only [zi_ui, zi_ui', zl_ui, za_ui, zb_ui, zi_ul, zl_ul, zl_ul', za_ul, zb_ul, zi_ua, zl_ua, zb_ua, za_ua, za_ua', zi_ub, zl_ub, za_ub, zb_ub, zb_ub'] <;> omega))) | (with_reducible refine ev_01 ?_ ?_; (first | omega | (simp (disch := omega) only [zi_ui, zi_ui', zl_ui, za_ui, zb_ui, zi_ul, zl_ul, zl_ul', za_ul, zb_ul, zi_ua, zl_ua, zb_ua, za_ua, za_ua', zi_ub, zl_ub, za_ub, zb_ub, zb_ub'] <;> omega))))
    rfl
  · have : o = 0 := by omega
    subst this
    (repeat first | (with_reducible refine ev_let ?_) | (with_reducible refine ev_rng ?_ ?_ ?_; (first | omega | (simp (disch := omega) only [zi_ui, zi_ui', zl_ui, za_ui, zb_ui, zi_ul, zl_ul, zl_ul', za_ul, zb_ul, zi_ua, zl_ua, zb_ua, za_ua, za_ua', zi_ub, zl_ub, za_ub, zb_ub, zb_ub'] <;> omega)); (first | omega | (simp (disch := omega) only [zi_ui, zi_ui', zl_ui, za_ui, zb_ui, zi_ul, zl_ul, zl_ul', za_ul, zb_ul, zi_ua, zl_ua, zb_ua, za_ua, za_ua', zi_ub, zl_ub, za_ub, zb_ub, zb_ub'] <;> omega))) | (with_reducible refine ev_ins ?_ ?_ ?_; (first | omega | (simp (disch := omega) only [zi_ui, zi_ui', zl_ui, za_ui, zb_ui, zi_ul, zl_ul, zl_ul', za_ul, zb_ul, zi_ua, zl_ua, zb_ua, za_ua, za_ua', zi_ub, zl_ub, za_ub, zb_ub, zb_ub'] <;> omega)); (first | omega | (simp (disch := omega) only [zi_ui, zi_ui', zl_ui, za_ui, zb_ui, zi_ul, zl_ul, zl_ul', za_ul, zb_ul, zi_ua, zl_ua, zb_ua, za_ua, za_ua', zi_ub, zl_ub, za_ub, zb_ub, zb_ub'] <;> omega))) | (with_reducible refine ev_if1 ?_ ?_; (first | omega | (simp (disch := omega) only [zi_ui, zi_ui', zl_ui, za_ui, zb_ui, zi_ul, zl_ul, zl_ul', za_ul, zb_ul, zi_ua, zl_ua, zb_ua, za_ua, za_ua', zi_ub, zl_ub, za_ub, zb_ub, zb_ub'] <;> omega))) | (with_reducible refine ev_if0 ?_ ?_; (first | omega | (simp (disch := omega) only [zi_ui, zi_ui', zl_ui, za_ui, zb_ui, zi_ul, zl_ul, zl_ul', za_ul, zb_ul, zi_ua, zl_ua, zb_ua, za_ua, za_ua', zi_ub, zl_ub, za_ub, zb_ub, zb_ub'] <;> omega))) | (with_reducible refine ev_rnl ?_ ?_ ?_; (first | omega | (simp (disch := omega) only [zi_ui, zi_ui', zl_ui, za_ui, zb_ui, zi_ul, zl_ul, zl_ul', za_ul, zb_ul, zi_ua, zl_ua, zb_ua, za_ua, za_ua', zi_ub, zl_ub, za_ub, zb_ub, zb_ub'] <;> omega)); (first | omega | (simp (disch := omega) only [zi_ui, zi_ui', zl_ui, za_ui, zb_ui, zi_ul, zl_ul, zl_ul', za_ul, zb_ul, zi_ua, zl_ua, zb_ua, za_ua, za_ua', zi_ub, zl_ub, za_ub, zb_ub, zb_ub'] <;> omega))) | (with_reducible refine ev_ne ?_ ?_; (first | omega | (simp (disch := omega) only [zi_ui, zi_ui', zl_ui, za_ui, zb_ui, zi_ul, zl_ul, zl_ul', za_ul, zb_ul, zi_ua, zl_ua, zb_ua, za_ua, za_ua', zi_ub, zl_ub, za_ub, zb_ub, zb_ub'] <;> omega))) | (with_reducible refine ev_01 ?_ ?_; (first | omega | (simp (disch := omega) only [zi_ui, zi_ui', zl_ui, za_ui, zb_ui, zi_ul, zl_ul, zl_ul', za_ul, zb_ul, zi_ua, zl_ua, zb_ua, za_ua, za_ua', zi_ub, zl_ub, za_ub, zb_ub, zb_ub'] <;> omega))))
    rfl
theorem bit_nat {m k : Nat} (hk : k < 64) (hm : m < 2 ^ 62) : zland (zlshr (m : Int) (k : Int)) 1 = (((m.testBit k).toNat : Nat) : Int) := by
  have hd : m / 2 ^ k ≤ m := Nat.div_le_self _ _
  have e1 : zlshr (m : Int) (k : Int) = ((m / 2 ^ k : Nat) : Int) := zlshr_nat hk (by omega)
  have e2 : zland ((m / 2 ^ k : Nat) : Int) 1 = ((m / 2 ^ k &&& 1 : Nat) : Int) := zland_nat (b := 1) (by omega) (by omega)
  have e3 : m / 2 ^ k &&& 1 = m / 2 ^ k % 2 := Nat.and_two_pow_sub_one_eq_mod _ 1
  rw [e1, e2, e3, Nat.testBit_eq_decide_div_mod_eq]
  have h2 : m / 2 ^ k % 2 < 2 := Nat.mod_lt _ (by omega)
  by_cases h : m / 2 ^ k % 2 = 1
  · rw [h]; rfl
  · rw [show m / 2 ^ k % 2 = 0 by omega]; rfl
theorem clr_nat {m k : Nat} (hk : k < 62) (hm : m < 2 ^ 62) : ∃ m2 : Nat, zland (m : Int) (zlxor (zlshl 1 (k : Int)) (-1)) = m2 ∧ m2 ≤ m ∧ ∀ j, m2.testBit j = (m.testBit j && decide (j ≠ k)) := by
  have p62 : (2 : Nat) ^ k < 2 ^ 62 := Nat.pow_lt_pow_right (by omega) hk
  have e1 : zlshl 1 (k : Int) = ((1 * 2 ^ k : Nat) : Int) := zlshl_nat (a := 1) (k := k) (by omega) (by omega) (by omega)
  rw [e1, Nat.one_mul]
  have e2 : zland (m : Int) (zlxor ((2 ^ k : Nat) : Int) (-1)) = (BitVec.ofNat 64 m &&& (BitVec.ofNat 64 (2 ^ k) ^^^ (-1#64))).toInt := by
    unfold zland zlxor
    rw [Int64.ofInt_toInt]
    show ((Int64.ofInt (m : Int)).toBitVec &&& ((Int64.ofInt ((2 ^ k : Nat) : Int)).toBitVec ^^^ (Int64.ofInt (-1)).toBitVec)).toInt = _
    rw [b64, b64]
    rfl
  have h3 : (BitVec.ofNat 64 m &&& (BitVec.ofNat 64 (2 ^ k) ^^^ (-1#64))).toNat ≤ m := by
    rw [BitVec.toNat_and]
    have : (BitVec.ofNat 64 m).toNat = m := b64n (by omega)
    rw [this]
    exact Nat.and_le_left
  refine ⟨(BitVec.ofNat 64 m &&& (BitVec.ofNat 64 (2 ^ k) ^^^ (-1#64))).toNat, ?_, h3, ?_⟩
  · rw [e2]; exact b64i rfl (by omega)
  · intro j
    rw [BitVec.testBit_toNat, BitVec.getLsbD_and, BitVec.getLsbD_xor, BitVec.getLsbD_ofNat, BitVec.getLsbD_ofNat, Nat.testBit_two_pow]
    by_cases hj : j < 64
    · have h4 : (-1#64).getLsbD j = true := by
        rw [show (-1#64) = BitVec.allOnes 64 by decide, BitVec.getLsbD_allOnes]; simp [hj]
      rw [h4]
      simp only [hj, decide_true, Bool.true_and, Bool.bne_true]
      congr 1
      by_cases hjk : j = k
      · simp [hjk]
      · have hkj : ¬ k = j := fun h => hjk h.symm
        simp [hjk, hkj]
    · have : m.testBit j = false := Nat.testBit_lt_two_pow (Nat.lt_of_lt_of_le (show m < 2 ^ 64 by omega) (Nat.pow_le_pow_right (by omega) (by omega)))
      simp [hj, this]
