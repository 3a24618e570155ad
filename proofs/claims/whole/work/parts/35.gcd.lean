/-! lowest terms -/
theorem mod_half {b r n : Nat} (h1 : 0 < r) (h2 : r < b) (h3 : b < 2 ^ (n + 1)) : b % r < 2 ^ n := by
  have h4 : b < 2 * 2 ^ n := by rw [Nat.pow_succ] at h3; omega
  by_cases h : 2 * r ≤ b
  · have := Nat.mod_lt b h1
    omega
  · rw [Nat.mod_eq_sub_mod (by omega), Nat.mod_eq_of_lt (by omega)]
    omega
theorem common_e (S : SZ) : ∀ (n fu a b : Nat), b < 2 ^ n → 2 * n + 1 < fu → a < 1000000 → b < 1000000 → f_X9_common_p6 fu S a b = some (S, (Nat.gcd a b : Int)) := by
  intro n
  induction n with
  | zero =>
    intro fu a b h1 h2 h3 h4
    have hb : b = 0 := by simpa using h1
    subst hb
    obtain ⟨f2, rfl⟩ : ∃ f2, fu = f2 + 1 := ⟨fu - 1, by omega⟩
    rw [f_X9_common_p6]
    (repeat first | (with_reducible refine ev_let ?_) | (with_reducible refine ev_rng ?_ ?_ ?_; (first | omega | (simp (disch := omega) only [zi_ui, zi_ui', zl_ui, za_ui, zb_ui, zi_ul, zl_ul, zl_ul', za_ul, zb_ul, zi_ua, zl_ua, zb_ua, za_ua, za_ua', zi_ub, zl_ub, za_ub, zb_ub, zb_ub'] <;> omega)); (first | omega | (simp (disch := omega) only [zi_ui, zi_ui', zl_ui, za_ui, zb_ui, zi_ul, zl_ul, zl_ul', za_ul, zb_ul, zi_ua, zl_ua, zb_ua, za_ua, za_ua', zi_ub, zl_ub, za_ub, zb_ub, zb_ub'] <;> omega))) | (with_reducible refine ev_ins ?_ ?_ ?_; (first | omega | (simp (disch := omega) only [zi_ui, zi_ui', zl_ui, za_ui, zb_ui, zi_ul, zl_ul, zl_ul', za_ul, zb_ul, zi_ua, zl_ua, zb_ua, za_ua, za_ua', zi_ub, zl_ub, za_ub, zb_ub, zb_ub'] <;> omega)); (first | omega | (simp (disch := omega) only [zi_ui, zi_ui', zl_ui, za_ui, zb_ui, zi_ul, zl_ul, zl_ul', za_ul, zb_ul, zi_ua, zl_ua, zb_ua, za_ua, za_ua', zi_ub, zl_ub, za_ub, zb_ub, zb_ub'] <;> omega))) | (with_reducible refine ev_if1 ?_ ?_; (first | omega | (simp (disch := omega) only [zi_ui, zi_ui', zl_ui, za_ui, zb_ui, zi_ul, zl_ul, zl_ul', za_ul, zb_ul, zi_ua, zl_ua, zb_ua, za_ua, za_ua', zi_ub, zl_ub, za_ub, zb_ub, zb_ub'] <;> omega))) | (with_reducible refine ev_if0 ?_ ?_; (first | omega | (simp (disch := omega) only [zi_ui, zi_ui', zl_ui, za_ui, zb_ui, zi_ul, zl_ul, zl_ul', za_ul, zb_ul, zi_ua, zl_ua, zb_ua, za_ua, za_ua', zi_ub, zl_ub, za_ub, zb_ub, zb_ub'] <;> omega))) | (with_reducible refine ev_rnl ?_ ?_ ?_; (first | omega | (simp (disch := omega) only [zi_ui, zi_ui', zl_ui, za_ui, zb_ui, zi_ul, zl_ul, zl_ul', za_ul, zb_ul, zi_ua, zl_ua, zb_ua, za_ua, za_ua', zi_ub, zl_ub, za_ub, zb_ub, zb_ub'] <;> omega)); (first | omega | (simp (disch := omega) only [zi_ui, zi_ui', zl_ui, za_ui, zb_ui, zi_ul, zl_ul, zl_ul', za_ul, zb_ul, zi_ua, zl_ua, zb_ua, za_ua, za_ua', zi_ub, zl_ub, za_ub, zb_ub, zb_ub'] <;> omega))) | (with_reducible refine ev_ne ?_ ?_; (first | omega | (simp (disch := omega) only [zi_ui, zi_ui', zl_ui, za_ui, zb_ui, zi_ul, zl_ul, zl_ul', za_ul, zb_ul, zi_ua, zl_ua, zb_ua, za_ua, za_ua', zi_ub, zl_ub, za_ub, zb_ub, zb_ub'] <;> omega))) | (with_reducible refine ev_01 ?_ ?_; (first | omega | (simp (disch := omega) only [zi_ui, zi_ui', zl_ui, za_ui, zb_ui, zi_ul, zl_ul, zl_ul', za_ul, zb_ul, zi_ua, zl_ua, zb_ua, za_ua, za_ua', zi_ub, zl_ub, za_ub, zb_ub, zb_ub'] <;> omega))))
    rw [Nat.gcd_zero_right]
  | succ n ih =>
    intro fu a b h1 h2 h3 h4
    obtain ⟨f2, rfl⟩ : ∃ f2, fu = f2 + 1 + 1 := ⟨fu - 2, by omega⟩
    rw [f_X9_common_p6]
    by_cases hb : b = 0
    · subst hb
      (repeat first | (with_reducible refine ev_let ?_) | (with_reducible refine ev_rng ?_ ?_ ?_; (first | omega | (simp (disch := omega) only [zi_ui, zi_ui', zl_ui, za_ui, zb_ui, zi_ul, zl_ul, zl_ul', za_ul, zb_ul, zi_ua, zl_ua, zb_ua, za_ua, za_ua', zi_ub, zl_ub, za_ub, zb_ub, zb_ub'] <;> omega)); (first | omega | (simp (disch := omega) only [zi_ui, zi_ui', zl_ui, za_ui, zb_ui, zi_ul, zl_ul, zl_ul', za_ul, zb_ul, zi_ua, zl_ua, zb_ua, za_ua, za_ua', zi_ub, zl_ub, za_ub, zb_ub, zb_ub'] <;> omega))) | (with_reducible refine ev_ins ?_ ?_ ?_; (first | omega | (simp (disch := omega) only [zi_ui, zi_ui', zl_ui, za_ui, zb_ui, zi_ul, zl_ul, zl_ul', za_ul, zb_ul, zi_ua, zl_ua, zb_ua, za_ua, za_ua', zi_ub, zl_ub, za_ub, zb_ub, zb_ub'] <;> omega)); (first | omega | (simp (disch := omega) only [zi_ui, zi_ui', zl_ui, za_ui, zb_ui, zi_ul, zl_ul, zl_ul', za_ul, zb_ul, zi_ua, zl_ua, zb_ua, za_ua, za_ua', zi_ub, zl_ub, za_ub, zb_ub, zb_ub'] <;> omega))) | (with_reducible refine ev_if1 ?_ ?_; (first | omega | (simp (disch := omega) only [zi_ui, zi_ui', zl_ui, za_ui, zb_ui, zi_ul, zl_ul, zl_ul', za_ul, zb_ul, zi_ua, zl_ua, zb_ua, za_ua, za_ua', zi_ub, zl_ub, za_ub, zb_ub, zb_ub'] <;> omega))) | (with_reducible refine ev_if0 ?_ ?_; (first | omega | (simp (disch := omega) only [zi_ui, zi_ui', zl_ui, za_ui, zb_ui, zi_ul, zl_ul, zl_ul', za_ul, zb_ul, zi_ua, zl_ua, zb_ua, za_ua, za_ua', zi_ub, zl_ub, za_ub, zb_ub, zb_ub'] <;> omega))) | (with_reducible refine ev_rnl ?_ ?_ ?_; (first | omega | (simp (disch := omega) only [zi_ui, zi_ui', zl_ui, za_ui, zb_ui, zi_ul, zl_ul, zl_ul', za_ul, zb_ul, zi_ua, zl_ua, zb_ua, za_ua, za_ua', zi_ub, zl_ub, za_ub, zb_ub, zb_ub'] <;> omega)); (first | omega | (simp (disch := omega) only [zi_ui, zi_ui', zl_ui, za_ui, zb_ui, zi_ul, zl_ul, zl_ul', za_ul, zb_ul, zi_ua, zl_ua, zb_ua, za_ua, za_ua', zi_ub, zl_ub, za_ub, zb_ub, zb_ub'] <;> omega))) | (with_reducible refine ev_ne ?_ ?_; (first | omega | (simp (disch := omega) only [zi_ui, zi_ui', zl_ui, za_ui, zb_ui, zi_ul, zl_ul, zl_ul', za_ul, zb_ul, zi_ua, zl_ua, zb_ua, za_ua, za_ua', zi_ub, zl_ub, za_ub, zb_ub, zb_ub'] <;> omega))) | (with_reducible refine ev_01 ?_ ?_; (first | omega | (simp (disch := omega) only [zi_ui, zi_ui', zl_ui, za_ui, zb_ui, zi_ul, zl_ul, zl_ul', za_ul, zb_ul, zi_ua, zl_ua, zb_ua, za_ua, za_ua', zi_ub, zl_ub, za_ub, zb_ub, zb_ub'] <;> omega))))
      rw [Nat.gcd_zero_right]
    · have hr := Nat.mod_lt a (show 0 < b by omega)
      have e1 : Int.tmod (a : Int) (b : Int) = ((a % b : Nat) : Int) := (Int.ofNat_tmod a b).symm
      have g1 : Nat.gcd a b = Nat.gcd b (a % b) := by rw [Nat.gcd_comm a b, Nat.gcd_rec b a, Nat.gcd_comm]
      (repeat first | (with_reducible refine ev_let ?_) | (with_reducible refine ev_rng ?_ ?_ ?_; (first | omega | (simp (disch := omega) only [zi_ui, zi_ui', zl_ui, za_ui, zb_ui, zi_ul, zl_ul, zl_ul', za_ul, zb_ul, zi_ua, zl_ua, zb_ua, za_ua, za_ua', zi_ub, zl_ub, za_ub, zb_ub, zb_ub'] <;> omega)); (first | omega | (simp (disch := omega) only [zi_ui, zi_ui', zl_ui, za_ui, zb_ui, zi_ul, zl_ul, zl_ul', za_ul, zb_ul, zi_ua, zl_ua, zb_ua, za_ua, za_ua', zi_ub, zl_ub, za_ub, zb_ub, zb_ub'] <;> omega))) | (with_reducible refine ev_ins ?_ ?_ ?_; (first | omega | (simp (disch := omega) only [zi_ui, zi_ui', zl_ui, za_ui, zb_ui, zi_ul, zl_ul, zl_ul', za_ul, zb_ul, zi_ua, zl_ua, zb_ua, za_ua, za_ua', zi_ub, zl_ub, za_ub, zb_ub, zb_ub'] <;> omega)); (first | omega | (simp (disch := omega) only [zi_ui, zi_ui', zl_ui, za_ui, zb_ui, zi_ul, zl_ul, zl_ul', za_ul, zb_ul, zi_ua, zl_ua, zb_ua, za_ua, za_ua', zi_ub, zl_ub, za_ub, zb_ub, zb_ub'] <;> omega))) | (with_reducible refine ev_if1 ?_ ?_; (first | omega | (simp (disch := omega) only [zi_ui, zi_ui', zl_ui, za_ui, zb_ui, zi_ul, zl_ul, zl_ul', za_ul, zb_ul, zi_ua, zl_ua, zb_ua, za_ua, za_ua', zi_ub, zl_ub, za_ub, zb_ub, zb_ub'] <;> omega))) | (with_reducible refine ev_if0 ?_ ?_; (first | omega | (simp (disch := omega) only [zi_ui, zi_ui', zl_ui, za_ui, zb_ui, zi_ul, zl_ul, zl_ul', za_ul, zb_ul, zi_ua, zl_ua, zb_ua, za_ua, za_ua', zi_ub, zl_ub, za_ub, zb_ub, zb_ub'] <;> omega))) | (with_reducible refine ev_rnl ?_ ?_ ?_; (first | omega | (simp (disch := omega) only [zi_ui, zi_ui', zl_ui, za_ui, zb_ui, zi_ul, zl_ul, zl_ul', za_ul, zb_ul, zi_ua, zl_ua, zb_ua, za_ua, za_ua', zi_ub, zl_ub, za_ub, zb_ub, zb_ub'] <;> omega)); (first | omega | (simp (disch := omega) only [zi_ui, zi_ui', zl_ui, za_ui, zb_ui, zi_ul, zl_ul, zl_ul', za_ul, zb_ul, zi_ua, zl_ua, zb_ua, za_ua, za_ua', zi_ub, zl_ub, za_ub, zb_ub, zb_ub'] <;> omega))) | (with_reducible refine ev_ne ?_ ?_; (first | omega | (simp (disch := omega) only [zi_ui, zi_ui', zl_ui, za_ui, zb_ui, zi_ul, zl_ul, zl_ul', za_ul, zb_ul, zi_ua, zl_ua, zb_ua, za_ua, za_ua', zi_ub, zl_ub, za_ub, zb_ub, zb_ub'] <;> omega))) | (with_reducible refine ev_01 ?_ ?_; (first | omega | (simp (disch := omega) only [zi_ui, zi_ui', zl_ui, za_ui, zb_ui, zi_ul, zl_ul, zl_ul', za_ul, zb_ul, zi_ua, zl_ua, zb_ua, za_ua, za_ua', zi_ub, zl_ub, za_ub, zb_ub, zb_ub'] <;> omega))))
      rw [e1, f_X9_common_p6]
      by_cases hr0 : a % b = 0
      · (repeat first | (with_reducible refine ev_let ?_) | (with_reducible refine ev_rng ?_ ?_ ?_; (first | omega | (simp (disch := omega) only [zi_ui, zi_ui', zl_ui, za_ui, zb_ui, zi_ul, zl_ul, zl_ul', za_ul, zb_ul, zi_ua, zl_ua, zb_ua, za_ua, za_ua', zi_ub, zl_ub, za_ub, zb_ub, zb_ub'] <;> omega)); (first | omega | (simp (disch := omega) only [zi_ui, zi_ui', zl_ui, za_ui, zb_ui, zi_ul, zl_ul, zl_ul', za_ul, zb_ul, zi_ua, zl_ua, zb_ua, za_ua, za_ua', zi_ub, zl_ub, za_ub, zb_ub, zb_ub'] <;> omega))) | (with_reducible refine ev_ins ?_ ?_ ?_; (first | omega | (simp (disch := omega) only [zi_ui, zi_ui', zl_ui, za_ui, zb_ui, zi_ul, zl_ul, zl_ul', za_ul, zb_ul, zi_ua, zl_ua, zb_ua, za_ua, za_ua', zi_ub, zl_ub, za_ub, zb_ub, zb_ub'] <;> omega)); (first | omega | (simp (disch := omega) only [zi_ui, zi_ui', zl_ui, za_ui, zb_ui, zi_ul, zl_ul, zl_ul', za_ul, zb_ul, zi_ua, zl_ua, zb_ua, za_ua, za_ua', zi_ub, zl_ub, za_ub, zb_ub, zb_ub'] <;> omega))) | (with_reducible refine ev_if1 ?_ ?_; (first | omega | (simp (disch := omega) only [zi_ui, zi_ui', zl_ui, za_ui, zb_ui, zi_ul, zl_ul, zl_ul', za_ul, zb_ul, zi_ua, zl_ua, zb_ua, za_ua, za_ua', zi_ub, zl_ub, za_ub, zb_ub, zb_ub'] <;> omega))) | (with_reducible refine ev_if0 ?_ ?_; (first | omega | (simp (disch := omega) only [zi_ui, zi_ui', zl_ui, za_ui, zb_ui, zi_ul, zl_ul, zl_ul', za_ul, zb_ul, zi_ua, zl_ua, zb_ua, za_ua, za_ua', zi_ub, zl_ub, za_ub, zb_ub, zb_ub'] <;> omega))) | (with_reducible refine ev_rnl ?_ ?_ ?_; (first | omega | (simp (disch := omega) only [zi_ui, zi_ui', zl_ui, za_ui, zb_ui, zi_ul, zl_ul, zl_ul', za_ul, zb_ul, zi_ua, zl_ua, zb_ua, za_ua, za_ua', zi_ub, zl_ub, za_ub, zb_ub, zb_ub'] <;> omega)); (first | omega | (simp (disch := omega) only [zi_ui, zi_ui', zl_ui, za_ui, zb_ui, zi_ul, zl_ul, zl_ul', za_ul, zb_ul, zi_ua, zl_ua, zb_ua, za_ua, za_ua', zi_ub, zl_ub, za_ub, zb_ub, zb_ub'] <;> omega))) | (with_reducible refine ev_ne ?_ ?_; (first | omega | (simp (disch := omega) only [zi_ui, zi_ui', zl_ui, za_ui, zb_ui, zi_ul, zl_ul, zl_ul', za_ul, zb_ul, zi_ua, zl_ua, zb_ua, za_ua, za_ua', zi_ub, zl_ub, za_ub, zb_ub, zb_ub'] <;> omega))) | (with_reducible refine ev_01 ?_ ?_; (first | omega | (simp (disch := omega) only [zi_ui, zi_ui', zl_ui, za_ui, zb_ui, zi_ul, zl_ul, zl_ul', za_ul, zb_ul, zi_ua, zl_ua, zb_ua, za_ua, za_ua', zi_ub, zl_ub, za_ub, zb_ub, zb_ub'] <;> omega))))
        rw [g1, hr0, Nat.gcd_zero_right]
      · have e2 : Int.tmod (b : Int) ((a % b : Nat) : Int) = ((b % (a % b) : Nat) : Int) := (Int.ofNat_tmod b (a % b)).symm
        have g2 : Nat.gcd b (a % b) = Nat.gcd (a % b) (b % (a % b)) := by rw [Nat.gcd_comm b (a % b), Nat.gcd_rec (a % b) b, Nat.gcd_comm]
        have hh := mod_half (n := n) (show 0 < a % b by omega) hr h1
        have hl := Nat.mod_le b (a % b)
        (repeat first | (with_reducible refine ev_let ?_) | (with_reducible refine ev_rng ?_ ?_ ?_; (first | omega | (simp (disch := omega) only [zi_ui, zi_ui', zl_ui, za_ui, zb_ui, zi_ul, zl_ul, zl_ul', za_ul, zb_ul, zi_ua, zl_ua, zb_ua, za_ua, za_ua', zi_ub, zl_ub, za_ub, zb_ub, zb_ub'] <;> omega)); (first | omega | (simp (disch := omega) only [zi_ui, zi_ui', zl_ui, za_ui, zb_ui, zi_ul, zl_ul, zl_ul', za_ul, zb_ul, zi_ua, zl_ua, zb_ua, za_ua, za_ua', zi_ub, zl_ub, za_ub, zb_ub, zb_ub'] <;> omega))) | (with_reducible refine ev_ins ?_ ?_ ?_; (first | omega | (simp (disch := omega) only [zi_ui, zi_ui', zl_ui, za_ui, zb_ui, zi_ul, zl_ul, zl_ul', za_ul, zb_ul, zi_ua, zl_ua, zb_ua, za_ua, za_ua', zi_ub, zl_ub, za_ub, zb_ub, zb_ub'] <;> omega)); (first | omega | (simp (disch := omega) only [zi_ui, zi_ui', zl_ui, za_ui, zb_ui, zi_ul, zl_ul, zl_ul', za_ul, zb_ul, zi_ua, zl_ua, zb_ua, za_ua, za_ua', zi_ub, zl_ub, za_ub, zb_ub, zb_ub'] <;> omega))) | (with_reducible refine ev_if1 ?_ ?_; (first | omega | (simp (disch := omega) only [zi_ui, zi_ui', zl_ui, za_ui, zb_ui, zi_ul, zl_ul, zl_ul', za_ul, zb_ul, zi_ua, zl_ua, zb_ua, za_ua, za_ua', zi_ub, zl_ub, za_ub, zb_ub, zb_ub'] <;> omega))) | (with_reducible refine ev_if0 ?_ ?_; (first | omega | (simp (disch := omega) only [zi_ui, zi_ui', zl_ui, za_ui, zb_ui, zi_ul, zl_ul, zl_ul', za_ul, zb_ul, zi_ua, zl_ua, zb_ua, za_ua, za_ua', zi_ub, zl_ub, za_ub, zb_ub, zb_ub'] <;> omega))) | (with_reducible refine ev_rnl ?_ ?_ ?_; (first | omega | (simp (disch := omega) only [zi_ui, zi_ui', zl_ui, za_ui, zb_ui, zi_ul, zl_ul, zl_ul', za_ul, zb_ul, zi_ua, zl_ua, zb_ua, za_ua, za_ua', zi_ub, zl_ub, za_ub, zb_ub, zb_ub'] <;> omega)); (first | omega | (simp (disch := omega) only [zi_ui, zi_ui', zl_ui, za_ui, zb_ui, zi_ul, zl_ul, zl_ul', za_ul, zb_ul, zi_ua, zl_ua, zb_ua, za_ua, za_ua', zi_ub, zl_ub, za_ub, zb_ub, zb_ub'] <;> omega))) | (with_reducible refine ev_ne ?_ ?_; (first | omega | (simp (disch := omega) only [zi_ui, zi_ui', zl_ui, za_ui, zb_ui, zi_ul, zl_ul, zl_ul', za_ul, zb_ul, zi_ua, zl_ua, zb_ua, za_ua, za_ua', zi_ub, zl_ub, za_ub, zb_ub, zb_ub'] <;> omega))) | (with_reducible refine ev_01 ?_ ?_; (first | omega | (simp (disch := omega) only [zi_ui, zi_ui', zl_ui, za_ui, zb_ui, zi_ul, zl_ul, zl_ul', za_ul, zb_ul, zi_ua, zl_ua, zb_ua, za_ua, za_ua', zi_ub, zl_ub, za_ub, zb_ub, zb_ub'] <;> omega))))
        rw [e2, g1, g2]
        exact ih f2 (a % b) (b % (a % b)) hh (by omega) (by omega) (by omega)
theorem lowest_p {S : SZ} {v0 v2 v3 : Int} : ∀ (n fu a b : Nat) (i : Int), b < 2 ^ n → 2 * n + 1 < fu → a < 1000000 → b < 1000000 → 0 ≤ i → i + 2 * n + 2 < 64 → f_X2_lowest_p18 fu S v0 v2 v3 a b i = f_X2_lowest_p51 S v0 v2 v3 (Nat.gcd a b : Int) := by
  intro n
  induction n with
  | zero =>
    intro fu a b i h1 h2 h3 h4 h5 h6
    have hb : b = 0 := by simpa using h1
    subst hb
    obtain ⟨f2, rfl⟩ : ∃ f2, fu = f2 + 1 := ⟨fu - 1, by omega⟩
    rw [f_X2_lowest_p18]
    (repeat first | (with_reducible refine ev_let ?_) | (with_reducible refine ev_rng ?_ ?_ ?_; (first | omega | (simp (disch := omega) only [zi_ui, zi_ui', zl_ui, za_ui, zb_ui, zi_ul, zl_ul, zl_ul', za_ul, zb_ul, zi_ua, zl_ua, zb_ua, za_ua, za_ua', zi_ub, zl_ub, za_ub, zb_ub, zb_ub'] <;> omega)); (first | omega | (simp (disch := omega) only [zi_ui, zi_ui', zl_ui, za_ui, zb_ui, zi_ul, zl_ul, zl_ul', za_ul, zb_ul, zi_ua, zl_ua, zb_ua, za_ua, za_ua', zi_ub, zl_ub, za_ub, zb_ub, zb_ub'] <;> omega))) | (with_reducible refine ev_ins ?_ ?_ ?_; (first | omega | (simp (disch := omega) only [zi_ui, zi_ui', zl_ui, za_ui, zb_ui, zi_ul, zl_ul, zl_ul', za_ul, zb_ul, zi_ua, zl_ua, zb_ua, za_ua, za_ua', zi_ub, zl_ub, za_ub, zb_ub, zb_ub'] <;> omega)); (first | omega | (simp (disch := omega) only [zi_ui, zi_ui', zl_ui, za_ui, zb_ui, zi_ul, zl_ul, zl_ul', za_ul, zb_ul, zi_ua, zl_ua, zb_ua, za_ua, za_ua', zi_ub, zl_ub, za_ub, zb_ub, zb_ub'] <;> omega))) | (with_reducible refine ev_if1 ?_ ?_; (first | omega | (simp (disch := omega) only [zi_ui, zi_ui', zl_ui, za_ui, zb_ui, zi_ul, zl_ul, zl_ul', za_ul, zb_ul, zi_ua, zl_ua, zb_ua, za_ua, za_ua', zi_ub, zl_ub, za_ub, zb_ub, zb_ub'] <;> omega))) | (with_reducible refine ev_if0 ?_ ?_; (first | omega | (simp (disch := omega) only [zi_ui, zi_ui', zl_ui, za_ui, zb_ui, zi_ul, zl_ul, zl_ul', za_ul, zb_ul, zi_ua, zl_ua, zb_ua, za_ua, za_ua', zi_ub, zl_ub, za_ub, zb_ub, zb_ub'] <;> omega))) | (with_reducible refine ev_rnl ?_ ?_ ?_; (first | omega | (simp (disch := omega) only [zi_ui, zi_ui', zl_ui, za_ui, zb_ui, zi_ul, zl_ul, zl_ul', za_ul, zb_ul, zi_ua, zl_ua, zb_ua, za_ua, za_ua', zi_ub, zl_ub, za_ub, zb_ub, zb_ub'] <;> omega)); (first | omega | (simp (disch := omega) only [zi_ui, zi_ui', zl_ui, za_ui, zb_ui, zi_ul, zl_ul, zl_ul', za_ul, zb_ul, zi_ua, zl_ua, zb_ua, za_ua, za_ua', zi_ub, zl_ub, za_ub, zb_ub, zb_ub'] <;> omega))) | (with_reducible refine ev_ne ?_ ?_; (first | omega | (simp (disch := omega) only [zi_ui, zi_ui', zl_ui, za_ui, zb_ui, zi_ul, zl_ul, zl_ul', za_ul, zb_ul, zi_ua, zl_ua, zb_ua, za_ua, za_ua', zi_ub, zl_ub, za_ub, zb_ub, zb_ub'] <;> omega))) | (with_reducible refine ev_01 ?_ ?_; (first | omega | (simp (disch := omega) only [zi_ui, zi_ui', zl_ui, za_ui, zb_ui, zi_ul, zl_ul, zl_ul', za_ul, zb_ul, zi_ua, zl_ua, zb_ua, za_ua, za_ua', zi_ub, zl_ub, za_ub, zb_ub, zb_ub'] <;> omega))))
    rw [Nat.gcd_zero_right]
  | succ n ih =>
    intro fu a b i h1 h2 h3 h4 h5 h6
    obtain ⟨f2, rfl⟩ : ∃ f2, fu = f2 + 1 + 1 := ⟨fu - 2, by omega⟩
    rw [f_X2_lowest_p18]
    by_cases hb : b = 0
    · subst hb
      (repeat first | (with_reducible refine ev_let ?_) | (with_reducible refine ev_rng ?_ ?_ ?_; (first | omega | (simp (disch := omega) only [zi_ui, zi_ui', zl_ui, za_ui, zb_ui, zi_ul, zl_ul, zl_ul', za_ul, zb_ul, zi_ua, zl_ua, zb_ua, za_ua, za_ua', zi_ub, zl_ub, za_ub, zb_ub, zb_ub'] <;> omega)); (first | omega | (simp (disch := omega) only [zi_ui, zi_ui', zl_ui, za_ui, zb_ui, zi_ul, zl_ul, zl_ul', za_ul, zb_ul, zi_ua, zl_ua, zb_ua, za_ua, za_ua', zi_ub, zl_ub, za_ub, zb_ub, zb_ub'] <;> omega))) | (with_reducible refine ev_ins ?_ ?_ ?_; (first | omega | (simp (disch := omega) only [zi_ui, zi_ui', zl_ui, za_ui, zb_ui, zi_ul, zl_ul, zl_ul', za_ul, zb_ul, zi_ua, zl_ua, zb_ua, za_ua, za_ua', zi_ub, zl_ub, za_ub, zb_ub, zb_ub'] <;> omega)); (first | omega | (simp (disch := omega) only [zi_ui, zi_ui', zl_ui, za_ui, zb_ui, zi_ul, zl_ul, zl_ul', za_ul, zb_ul, zi_ua, zl_ua, zb_ua, za_ua, za_ua', zi_ub, zl_ub, za_ub, zb_ub, zb_ub'] <;> omega))) | (with_reducible refine ev_if1 ?_ ?_; (first | omega | (simp (disch := omega) only [zi_ui, zi_ui', zl_ui, za_ui, zb_ui, zi_ul, zl_ul, zl_ul', za_ul, zb_ul, zi_ua, zl_ua, zb_ua, za_ua, za_ua', zi_ub, zl_ub, za_ub, zb_ub, zb_ub'] <;> omega))) | (with_reducible refine ev_if0 ?_ ?_; (first | omega | (simp (disch := omega) only [zi_ui, zi_ui', zl_ui, za_ui, zb_ui, zi_ul, zl_ul, zl_ul', za_ul, zb_ul, zi_ua, zl_ua, zb_ua, za_ua, za_ua', zi_ub, zl_ub, za_ub, zb_ub, zb_ub'] <;> omega))) | (with_reducible refine ev_rnl ?_ ?_ ?_; (first | omega | (simp (disch := omega) only [zi_ui, zi_ui', zl_ui, za_ui, zb_ui, zi_ul, zl_ul, zl_ul', za_ul, zb_ul, zi_ua, zl_ua, zb_ua, za_ua, za_ua', zi_ub, zl_ub, za_ub, zb_ub, zb_ub'] <;> omega)); (first | omega | (simp (disch := omega) only [zi_ui, zi_ui', zl_ui, za_ui, zb_ui, zi_ul, zl_ul, zl_ul', za_ul, zb_ul, zi_ua, zl_ua, zb_ua, za_ua, za_ua', zi_ub, zl_ub, za_ub, zb_ub, zb_ub'] <;> omega))) | (with_reducible refine ev_ne ?_ ?_; (first | omega | (simp (disch := omega) only [zi_ui, zi_ui', zl_ui, za_ui, zb_ui, zi_ul, zl_ul, zl_ul', za_ul, zb_ul, zi_ua, zl_ua, zb_ua, za_ua, za_ua', zi_ub, zl_ub, za_ub, zb_ub, zb_ub'] <;> omega))) | (with_reducible refine ev_01 ?_ ?_; (first | omega | (simp (disch := omega) only [zi_ui, zi_ui', zl_ui, za_ui, zb_ui, zi_ul, zl_ul, zl_ul', za_ul, zb_ul, zi_ua, zl_ua, zb_ua, za_ua, za_ua', zi_ub, zl_ub, za_ub, zb_ub, zb_ub'] <;> omega))))
      rw [Nat.gcd_zero_right]
    · have hr := Nat.mod_lt a (show 0 < b by omega)
      have e1 : Int.tmod (a : Int) (b : Int) = ((a % b : Nat) : Int) := (Int.ofNat_tmod a b).symm
      have g1 : Nat.gcd a b = Nat.gcd b (a % b) := by rw [Nat.gcd_comm a b, Nat.gcd_rec b a, Nat.gcd_comm]
      (repeat first | (with_reducible refine ev_let ?_) | (with_reducible refine ev_rng ?_ ?_ ?_; (first | omega | (simp (disch := omega) only [zi_ui, zi_ui', zl_ui, za_ui, zb_ui, zi_ul, zl_ul, zl_ul', za_ul, zb_ul, zi_ua, zl_ua, zb_ua, za_ua, za_ua', zi_ub, zl_ub, za_ub, zb_ub, zb_ub'] <;> omega)); (first | omega | (simp (disch := omega) only [zi_ui, zi_ui', zl_ui, za_ui, zb_ui, zi_ul, zl_ul, zl_ul', za_ul, zb_ul, zi_ua, zl_ua, zb_ua, za_ua, za_ua', zi_ub, zl_ub, za_ub, zb_ub, zb_ub'] <;> omega))) | (with_reducible refine ev_ins ?_ ?_ ?_; (first | omega | (simp (disch := omega) only [zi_ui, zi_ui', zl_ui, za_ui, zb_ui, zi_ul, zl_ul, zl_ul', za_ul, zb_ul, zi_ua, zl_ua, zb_ua, za_ua, za_ua', zi_ub, zl_ub, za_ub, zb_ub, zb_ub'] <;> omega)); (first | omega | (simp (disch := omega) only [zi_ui, zi_ui', zl_ui, za_ui, zb_ui, zi_ul, zl_ul, zl_ul', za_ul, zb_ul, zi_ua, zl_ua, zb_ua, za_ua, za_ua', zi_ub, zl_ub, za_ub, zb_ub, zb_ub'] <;> omega))) | (with_reducible refine ev_if1 ?_ ?_; (first | omega | (simp (disch := omega) only [zi_ui, zi_ui', zl_ui, za_ui, zb_ui, zi_ul, zl_ul, zl_ul', za_ul, zb_ul, zi_ua, zl_ua, zb_ua, za_ua, za_ua', zi_ub, zl_ub, za_ub, zb_ub, zb_ub'] <;> omega))) | (with_reducible refine ev_if0 ?_ ?_; (first | omega | (simp (disch := omega) only [zi_ui, zi_ui', zl_ui, za_ui, zb_ui, zi_ul, zl_ul, zl_ul', za_ul, zb_ul, zi_ua, zl_ua, zb_ua, za_ua, za_ua', zi_ub, zl_ub, za_ub, zb_ub, zb_ub'] <;> omega))) | (with_reducible refine ev_rnl ?_ ?_ ?_; (first | omega | (simp (disch := omega) only [zi_ui, zi_ui', zl_ui, za_ui, zb_ui, zi_ul, zl_ul, zl_ul', za_ul, zb_ul, zi_ua, zl_ua, zb_ua, za_ua, za_ua', zi_ub, zl_ub, za_ub, zb_ub, zb_ub'] <;> omega)); (first | omega | (simp (disch := omega) only [zi_ui, zi_ui', zl_ui, za_ui, zb_ui, zi_ul, zl_ul, zl_ul', za_ul, zb_ul, zi_ua, zl_ua, zb_ua, za_ua, za_ua', zi_ub, zl_ub, za_ub, zb_ub, zb_ub'] <;> omega))) | (with_reducible refine ev_ne ?_ ?_; (first | omega | (simp (disch := omega) only [zi_ui, zi_ui', zl_ui, za_ui, zb_ui, zi_ul, zl_ul, zl_ul', za_ul, zb_ul, zi_ua, zl_ua, zb_ua, za_ua, za_ua', zi_ub, zl_ub, za_ub, zb_ub, zb_ub'] <;> omega))) | (with_reducible refine ev_01 ?_ ?_; (first | omega | (simp (disch := omega) only [zi_ui, zi_ui', zl_ui, za_ui, zb_ui, zi_ul, zl_ul, zl_ul', za_ul, zb_ul, zi_ua, zl_ua, zb_ua, za_ua, za_ua', zi_ub, zl_ub, za_ub, zb_ub, zb_ub'] <;> omega))))
      rw [e1, f_X2_lowest_p18]
      by_cases hr0 : a % b = 0
      · (repeat first | (with_reducible refine ev_let ?_) | (with_reducible refine ev_rng ?_ ?_ ?_; (first | omega | (simp (disch := omega) only [zi_ui, zi_ui', zl_ui, za_ui, zb_ui, zi_ul, zl_ul, zl_ul', za_ul, zb_ul, zi_ua, zl_ua, zb_ua, za_ua, za_ua', zi_ub, zl_ub, za_ub, zb_ub, zb_ub'] <;> omega)); (first | omega | (simp (disch := omega) only [zi_ui, zi_ui', zl_ui, za_ui, zb_ui, zi_ul, zl_ul, zl_ul', za_ul, zb_ul, zi_ua, zl_ua, zb_ua, za_ua, za_ua', zi_ub, zl_ub, za_ub, zb_ub, zb_ub'] <;> omega))) | (with_reducible refine ev_ins ?_ ?_ ?_; (first | omega | (simp (disch := omega) only [zi_ui, zi_ui', zl_ui, za_ui, zb_ui, zi_ul, zl_ul, zl_ul', za_ul, zb_ul, zi_ua, zl_ua, zb_ua, za_ua, za_ua', zi_ub, zl_ub, za_ub, zb_ub, zb_ub'] <;> omega)); (first | omega | (simp (disch := omega) only [zi_ui, zi_ui', zl_ui, za_ui, zb_ui, zi_ul, zl_ul, zl_ul', za_ul, zb_ul, zi_ua, zl_ua, zb_ua, za_ua, za_ua', zi_ub, zl_ub, za_ub, zb_ub, zb_ub'] <;> omega))) | (with_reducible refine ev_if1 ?_ ?_; (first | omega | (simp (disch := omega) only [zi_ui, zi_ui', zl_ui, za_ui, zb_ui, zi_ul, zl_ul, zl_ul', za_ul, zb_ul, zi_ua, zl_ua, zb_ua, za_ua, za_ua', zi_ub, zl_ub, za_ub, zb_ub, zb_ub'] <;> omega))) | (with_reducible refine ev_if0 ?_ ?_; (first | omega | (simp (disch := omega) only [zi_ui, zi_ui', zl_ui, za_ui, zb_ui, zi_ul, zl_ul, zl_ul', za_ul, zb_ul, zi_ua, zl_ua, zb_ua, za_ua, za_ua', zi_ub, zl_ub, za_ub, zb_ub, zb_ub'] <;> omega))) | (with_reducible refine ev_rnl ?_ ?_ ?_; (first | omega | (simp (disch := omega) only [zi_ui, zi_ui', zl_ui, za_ui, zb_ui, zi_ul, zl_ul, zl_ul', za_ul, zb_ul, zi_ua, zl_ua, zb_ua, za_ua, za_ua', zi_ub, zl_ub, za_ub, zb_ub, zb_ub'] <;> omega)); (first | omega | (simp (disch := omega) only [zi_ui, zi_ui', zl_ui, za_ui, zb_ui, zi_ul, zl_ul, zl_ul', za_ul, zb_ul, zi_ua, zl_ua, zb_ua, za_ua, za_ua', zi_ub, zl_ub, za_ub, zb_ub, zb_ub'] <;> omega))) | (with_reducible refine ev_ne ?_ ?_; (first | omega | (simp (disch := omega) only [zi_ui, zi_ui', zl_ui, za_ui, zb_ui, zi_ul, zl_ul, zl_ul', za_ul, zb_ul, zi_ua, zl_ua, zb_ua, za_ua, za_ua', zi_ub, zl_ub, za_ub, zb_ub, zb_ub'] <;> omega))) | (with_reducible refine ev_01 ?_ ?_; (first | omega | (simp (disch := omega) only [zi_ui, zi_ui', zl_ui, za_ui, zb_ui, zi_ul, zl_ul, zl_ul', za_ul, zb_ul, zi_ua, zl_ua, zb_ua, za_ua, za_ua', zi_ub, zl_ub, za_ub, zb_ub, zb_ub'] <;> omega))))
        rw [g1, hr0, Nat.gcd_zero_right]
      · have e2 : Int.tmod (b : Int) ((a % b : Nat) : Int) = ((b % (a % b) : Nat) : Int) := (Int.ofNat_tmod b (a % b)).symm
        have g2 : Nat.gcd b (a % b) = Nat.gcd (a % b) (b % (a % b)) := by rw [Nat.gcd_comm b (a % b), Nat.gcd_rec (a % b) b, Nat.gcd_comm]
        have hh := mod_half (n := n) (show 0 < a % b by omega) hr h1
        have hl := Nat.mod_le b (a % b)
        (repeat first | (with_reducible refine ev_let ?_) | (with_reducible refine ev_rng ?_ ?_ ?_; (first | omega | (simp (disch := omega) only [zi_ui, zi_ui', zl_ui, za_ui, zb_ui, zi_ul, zl_ul, zl_ul', za_ul, zb_ul, zi_ua, zl_ua, zb_ua, za_ua, za_ua', zi_ub, zl_ub, za_ub, zb_ub, zb_ub'] <;> omega)); (first | omega | (simp (disch := omega) only [zi_ui, zi_ui', zl_ui, za_ui, zb_ui, zi_ul, zl_ul, zl_ul', za_ul, zb_ul, zi_ua, zl_ua, zb_ua, za_ua, za_ua', zi_ub, zl_ub, za_ub, zb_ub, zb_ub'] <;> omega))) | (with_reducible refine ev_ins ?_ ?_ ?_; (first | omega | (simp (disch := omega) only [zi_ui, zi_ui', zl_ui, za_ui, zb_ui, zi_ul, zl_ul, zl_ul', za_ul, zb_ul, zi_ua, zl_ua, zb_ua, za_ua, za_ua', zi_ub, zl_ub, za_ub, zb_ub, zb_ub'] <;> omega)); (first | omega | (simp (disch := omega) only [zi_ui, zi_ui', zl_ui, za_ui, zb_ui, zi_ul, zl_ul, zl_ul', za_ul, zb_ul, zi_ua, zl_ua, zb_ua, za_ua, za_ua', zi_ub, zl_ub, za_ub, zb_ub, zb_ub'] <;> omega))) | (with_reducible refine ev_if1 ?_ ?_; (first | omega | (simp (disch := omega) only [zi_ui, zi_ui', zl_ui, za_ui, zb_ui, zi_ul, zl_ul, zl_ul', za_ul, zb_ul, zi_ua, zl_ua, zb_ua, za_ua, za_ua', zi_ub, zl_ub, za_ub, zb_ub, zb_ub'] <;> omega))) | (with_reducible refine ev_if0 ?_ ?_; (first | omega | (simp (disch := omega) only [zi_ui, zi_ui', zl_ui, za_ui, zb_ui, zi_ul, zl_ul, zl_ul', za_ul, zb_ul, zi_ua, zl_ua, zb_ua, za_ua, za_ua', zi_ub, zl_ub, za_ub, zb_ub, zb_ub'] <;> omega))) | (with_reducible refine ev_rnl ?_ ?_ ?_; (first | omega | (simp (disch := omega) only [zi_ui, zi_ui', zl_ui, za_ui, zb_ui, zi_ul, zl_ul, zl_ul', za_ul, zb_ul, zi_ua, zl_ua, zb_ua, za_ua, za_ua', zi_ub, zl_ub, za_ub, zb_ub, zb_ub'] <;> omega)); (first | omega | (simp (disch := omega) only [zi_ui, zi_ui', zl_ui, za_ui, zb_ui, zi_ul, zl_ul, zl_ul', za_ul, zb_ul, zi_ua, zl_ua, zb_ua, za_ua, za_ua', zi_ub, zl_ub, za_ub, zb_ub, zb_ub'] <;> omega))) | (with_reducible refine ev_ne ?_ ?_; (first | omega | (simp (disch := omega) only [zi_ui, zi_ui', zl_ui, za_ui, zb_ui, zi_ul, zl_ul, zl_ul', za_ul, zb_ul, zi_ua, zl_ua, zb_ua, za_ua, za_ua', zi_ub, zl_ub, za_ub, zb_ub, zb_ub'] <;> omega))) | (with_reducible refine ev_01 ?_ ?_; (first | omega | (simp (disch := omega) only [zi_ui, zi_ui', zl_ui, za_ui, zb_ui, zi_ul, zl_ul, zl_ul', za_ul, zb_ul, zi_ua, zl_ua, zb_ua, za_ua, za_ua', zi_ub, zl_ub, za_ub, zb_ub, zb_ub'] <;> omega))))
        rw [e2, g1, g2]
        exact ih f2 (a % b) (b % (a % b)) _ hh (by omega) (by omega) (by omega) (by omega) (by omega)
/-- the greatest common divisor, the numerator, the denominator in lowest terms -/
def gd (u d : Int) : Int := (Nat.gcd d.toNat u.toNat : Int)
def ru (u d : Int) : Int := u / gd u d
def rd (u d : Int) : Int := d / gd u d
theorem gd_pos {u d : Int} (h : fr u d) : 0 < gd u d := by
  obtain ⟨a1, a2, a3, a4⟩ := h
  have : 0 < Nat.gcd d.toNat u.toNat := Nat.gcd_pos_of_pos_left _ (by omega)
  unfold gd; omega
theorem gd_u {u d : Int} (h : fr u d) : ru u d * gd u d = u := by
  obtain ⟨a1, a2, a3, a4⟩ := id h
  unfold ru
  refine Int.ediv_mul_cancel ?_
  have h1 : (Nat.gcd d.toNat u.toNat) ∣ u.toNat := Nat.gcd_dvd_right _ _
  have h2 := Int.natCast_dvd_natCast.mpr h1
  rw [Int.toNat_of_nonneg a1] at h2
  exact h2
theorem gd_d {u d : Int} (h : fr u d) : rd u d * gd u d = d := by
  obtain ⟨a1, a2, a3, a4⟩ := id h
  unfold rd
  refine Int.ediv_mul_cancel ?_
  have h1 : (Nat.gcd d.toNat u.toNat) ∣ d.toNat := Nat.gcd_dvd_left _ _
  have h2 := Int.natCast_dvd_natCast.mpr h1
  rw [Int.toNat_of_nonneg (by omega)] at h2
  exact h2
theorem red_fr {u d : Int} (h : fr u d) : fr (ru u d) (rd u d) := by
  have hp := gd_pos h
  have hu := gd_u h
  have hd := gd_d h
  obtain ⟨a1, a2, a3, a4⟩ := h
  have u0 : 0 ≤ ru u d := Int.ediv_nonneg a1 (by omega)
  have d0 : 0 ≤ rd u d := Int.ediv_nonneg (by omega) (by omega)
  have dn : rd u d ≠ 0 := fun e => by rw [e, Int.zero_mul] at hd; omega
  have ul : ru u d ≤ u := by
    have := Int.mul_le_mul_of_nonneg_left (show 1 ≤ gd u d by omega) u0
    omega
  have dl : rd u d ≤ d := by
    have := Int.mul_le_mul_of_nonneg_left (show 1 ≤ gd u d by omega) d0
    omega
  exact ⟨u0, by omega, by omega, by omega⟩
theorem red_eq {u d : Int} (h : fr u d) : ru u d * d = u * rd u d := by
  have hu := gd_u h
  have hd := gd_d h
  have e1 : ru u d * (rd u d * gd u d) = (ru u d * gd u d) * rd u d := by grind
  rw [hd, hu] at e1
  exact e1
/-- in lowest terms -/
def low (u d : Int) : Prop := fr u d ∧ Nat.gcd d.toNat u.toNat = 1
theorem low_red {u d : Int} (h : fr u d) : low (ru u d) (rd u d) := by
  refine ⟨red_fr h, ?_⟩
  have hp := gd_pos h
  have hu := gd_u h
  have hd := gd_d h
  have hf := red_fr h
  obtain ⟨a1, a2, a3, a4⟩ := h
  obtain ⟨b1, b2, b3, b4⟩ := hf
  have e1 : u.toNat = (ru u d).toNat * (gd u d).toNat := by rw [← Int.toNat_mul b1 (by omega), hu]
  have e2 : d.toNat = (rd u d).toNat * (gd u d).toNat := by rw [← Int.toNat_mul (by omega) (by omega), hd]
  have e3 : (gd u d).toNat = Nat.gcd d.toNat u.toNat := rfl
  have e4 : Nat.gcd ((rd u d).toNat * (gd u d).toNat) ((ru u d).toNat * (gd u d).toNat) = Nat.gcd (rd u d).toNat (ru u d).toNat * (gd u d).toNat := Nat.gcd_mul_right _ _ _
  rw [← e1, ← e2, ← e3] at e4
  have e5 : (gd u d).toNat * 1 = (gd u d).toNat * Nat.gcd (rd u d).toNat (ru u d).toNat := by rw [Nat.mul_one, Nat.mul_comm]; exact e4
  exact (Nat.eq_of_mul_eq_mul_left (by omega) e5).symm
theorem low_eq {u d u2 d2 : Int} (h1 : low u d) (h2 : low u2 d2) (h : u * d2 = u2 * d) : u = u2 ∧ d = d2 := by
  obtain ⟨⟨a1, a2, a3, a4⟩, g1⟩ := h1
  obtain ⟨⟨b1, b2, b3, b4⟩, g2⟩ := h2
  have hn : u.toNat * d2.toNat = u2.toNat * d.toNat := by
    rw [← Int.toNat_mul a1 (by omega), ← Int.toNat_mul b1 (by omega), h]
  have c1 : Nat.Coprime d.toNat u.toNat := g1
  have c2 : Nat.Coprime d2.toNat u2.toNat := g2
  have d1 : d.toNat ∣ d2.toNat := c1.dvd_of_dvd_mul_left (by rw [hn]; exact Nat.dvd_mul_left _ _)
  have d3 : d2.toNat ∣ d.toNat := c2.dvd_of_dvd_mul_left (by rw [← hn]; exact Nat.dvd_mul_left _ _)
  have e := Nat.dvd_antisymm d1 d3
  have ed : d = d2 := by omega
  subst ed
  exact ⟨Int.eq_of_mul_eq_mul_right (by omega) h, rfl⟩
theorem low_01 : low 0 1 ∧ low 1 1 := ⟨⟨⟨by decide, by decide, by decide, by decide⟩, by decide⟩, ⟨⟨by decide, by decide, by decide, by decide⟩, by decide⟩⟩
theorem X9_common_e (S : SZ) {u d : Int} (h : fr u d) : f_X9_common S d u = some (S, gd u d) := by
  obtain ⟨a1, a2, a3, a4⟩ := h
  have := common_e S 18 FU d.toNat u.toNat (by omega) (by rw [fu_eq]; omega) (by omega) (by omega)
  rw [Int.toNat_of_nonneg a1, Int.toNat_of_nonneg (by omega)] at this
  exact this
theorem lowest_e (S : SZ) {u d : Int} (h : fr u d) : f_X2_lowest S (pk u d) = some (S, pk (ru u d) (rd u d)) := by
  have hp := gd_pos h
  have hu := gd_u h
  have hd := gd_d h
  have hf := red_fr h
  obtain ⟨a1, a2, a3, a4⟩ := id h
  obtain ⟨b1, b2, b3, b4⟩ := hf
  unfold f_X2_lowest
  rw [pk_up a1 (by omega) (by omega) (by omega), pk_dn a1 (by omega) (by omega) (by omega), zl2i_e ⟨by omega, by omega⟩, olet_e, olet_e]
  have e1 := lowest_p (S := S) (v0 := pk u d) (v2 := u) (v3 := d) 18 FU d.toNat u.toNat 0 (by omega) (by rw [fu_eq]; omega) (by omega) (by omega) (by omega) (by omega)
  rw [Int.toNat_of_nonneg a1, Int.toNat_of_nonneg (show 0 ≤ d by omega)] at e1
  rw [e1]
  show f_X2_lowest_p51 S (pk u d) u d (gd u d) = _
  have gl : gd u d ≤ d := by
    have := Int.mul_le_mul_of_nonneg_right (show 1 ≤ rd u d by omega) (show 0 ≤ gd u d by omega)
    omega
  unfold f_X2_lowest_p51
  by_cases hg : gd u d ≤ 1
  · have h1 : gd u d = 1 := by omega
    rw [h1, Int.mul_one] at hu hd
    (repeat first | (with_reducible refine ev_let ?_) | (with_reducible refine ev_rng ?_ ?_ ?_; (first | omega | (simp (disch := omega) only [zi_ui, zi_ui', zl_ui, za_ui, zb_ui, zi_ul, zl_ul, zl_ul', za_ul, zb_ul, zi_ua, zl_ua, zb_ua, za_ua, za_ua', zi_ub, zl_ub, za_ub, zb_ub, zb_ub'] <;> omega)); (first | omega | (simp (disch := omega) only [zi_ui, zi_ui', zl_ui, za_ui, zb_ui, zi_ul, zl_ul, zl_ul', za_ul, zb_ul, zi_ua, zl_ua, zb_ua, za_ua, za_ua', zi_ub, zl_ub, za_ub, zb_ub, zb_ub'] <;> omega))) | (with_reducible refine ev_ins ?_ ?_ ?_; (first | omega | (simp (disch := omega) only [zi_ui, zi_ui', zl_ui, za_ui, zb_ui, zi_ul, zl_ul, zl_ul', za_ul, zb_ul, zi_ua, zl_ua, zb_ua, za_ua, za_ua', zi_ub, zl_ub, za_ub, zb_ub, zb_ub'] <;> omega)); (first | omega | (simp (disch := omega) only [zi_ui, zi_ui', zl_ui, za_ui, zb_ui, zi_ul, zl_ul, zl_ul', za_ul, zb_ul, zi_ua, zl_ua, zb_ua, za_ua, za_ua', zi_ub, zl_ub, za_ub, zb_ub, zb_ub'] <;> omega))) | (with_reducible refine ev_if1 ?_ ?_; (first | omega | (simp (disch := omega) only [zi_ui, zi_ui', zl_ui, za_ui, zb_ui, zi_ul, zl_ul, zl_ul', za_ul, zb_ul, zi_ua, zl_ua, zb_ua, za_ua, za_ua', zi_ub, zl_ub, za_ub, zb_ub, zb_ub'] <;> omega))) | (with_reducible refine ev_if0 ?_ ?_; (first | omega | (simp (disch := omega) only [zi_ui, zi_ui', zl_ui, za_ui, zb_ui, zi_ul, zl_ul, zl_ul', za_ul, zb_ul, zi_ua, zl_ua, zb_ua, za_ua, za_ua', zi_ub, zl_ub, za_ub, zb_ub, zb_ub'] <;> omega))) | (with_reducible refine ev_rnl ?_ ?_ ?_; (first | omega | (simp (disch := omega) only [zi_ui, zi_ui', zl_ui, za_ui, zb_ui, zi_ul, zl_ul, zl_ul', za_ul, zb_ul, zi_ua, zl_ua, zb_ua, za_ua, za_ua', zi_ub, zl_ub, za_ub, zb_ub, zb_ub'] <;> omega)); (first | omega | (simp (disch := omega) only [zi_ui, zi_ui', zl_ui, za_ui, zb_ui, zi_ul, zl_ul, zl_ul', za_ul, zb_ul, zi_ua, zl_ua, zb_ua, za_ua, za_ua', zi_ub, zl_ub, za_ub, zb_ub, zb_ub'] <;> omega))) | (with_reducible refine ev_ne ?_ ?_; (first | omega | (simp (disch := omega) only [zi_ui, zi_ui', zl_ui, za_ui, zb_ui, zi_ul, zl_ul, zl_ul', za_ul, zb_ul, zi_ua, zl_ua, zb_ua, za_ua, za_ua', zi_ub, zl_ub, za_ub, zb_ub, zb_ub'] <;> omega))) | (with_reducible refine ev_01 ?_ ?_; (first | omega | (simp (disch := omega) only [zi_ui, zi_ui', zl_ui, za_ui, zb_ui, zi_ul, zl_ul, zl_ul', za_ul, zb_ul, zi_ua, zl_ua, zb_ua, za_ua, za_ua', zi_ub, zl_ub, za_ub, zb_ub, zb_ub'] <;> omega))))
    rw [hu, hd]
  · rw [Int.tdiv_eq_ediv_of_nonneg a1, Int.tdiv_eq_ediv_of_nonneg (show 0 ≤ d by omega)]
    show _ = some (S, pk (u / gd u d) (d / gd u d))
    have b1' : 0 ≤ u / gd u d := b1
    have b2' : u / gd u d < 200000 := b2
    have b3' : 0 < d / gd u d := b3
    have b4' : d / gd u d < 200000 := b4
    (repeat first | (with_reducible refine ev_let ?_) | (with_reducible refine ev_rng ?_ ?_ ?_; (first | omega | (simp (disch := omega) only [zi_ui, zi_ui', zl_ui, za_ui, zb_ui, zi_ul, zl_ul, zl_ul', za_ul, zb_ul, zi_ua, zl_ua, zb_ua, za_ua, za_ua', zi_ub, zl_ub, za_ub, zb_ub, zb_ub'] <;> omega)); (first | omega | (simp (disch := omega) only [zi_ui, zi_ui', zl_ui, za_ui, zb_ui, zi_ul, zl_ul, zl_ul', za_ul, zb_ul, zi_ua, zl_ua, zb_ua, za_ua, za_ua', zi_ub, zl_ub, za_ub, zb_ub, zb_ub'] <;> omega))) | (with_reducible refine ev_ins ?_ ?_ ?_; (first | omega | (simp (disch := omega) only [zi_ui, zi_ui', zl_ui, za_ui, zb_ui, zi_ul, zl_ul, zl_ul', za_ul, zb_ul, zi_ua, zl_ua, zb_ua, za_ua, za_ua', zi_ub, zl_ub, za_ub, zb_ub, zb_ub'] <;> omega)); (first | omega | (simp (disch := omega) only [zi_ui, zi_ui', zl_ui, za_ui, zb_ui, zi_ul, zl_ul, zl_ul', za_ul, zb_ul, zi_ua, zl_ua, zb_ua, za_ua, za_ua', zi_ub, zl_ub, za_ub, zb_ub, zb_ub'] <;> omega))) | (with_reducible refine ev_if1 ?_ ?_; (first | omega | (simp (disch := omega) only [zi_ui, zi_ui', zl_ui, za_ui, zb_ui, zi_ul, zl_ul, zl_ul', za_ul, zb_ul, zi_ua, zl_ua, zb_ua, za_ua, za_ua', zi_ub, zl_ub, za_ub, zb_ub, zb_ub'] <;> omega))) | (with_reducible refine ev_if0 ?_ ?_; (first | omega | (simp (disch := omega) only [zi_ui, zi_ui', zl_ui, za_ui, zb_ui, zi_ul, zl_ul, zl_ul', za_ul, zb_ul, zi_ua, zl_ua, zb_ua, za_ua, za_ua', zi_ub, zl_ub, za_ub, zb_ub, zb_ub'] <;> omega))) | (with_reducible refine ev_rnl ?_ ?_ ?_; (first | omega | (simp (disch := omega) only [zi_ui, zi_ui', zl_ui, za_ui, zb_ui, zi_ul, zl_ul, zl_ul', za_ul, zb_ul, zi_ua, zl_ua, zb_ua, za_ua, za_ua', zi_ub, zl_ub, za_ub, zb_ub, zb_ub'] <;> omega)); (first | omega | (simp (disch := omega) only [zi_ui, zi_ui', zl_ui, za_ui, zb_ui, zi_ul, zl_ul, zl_ul', za_ul, zb_ul, zi_ua, zl_ua, zb_ua, za_ua, za_ua', zi_ub, zl_ub, za_ub, zb_ub, zb_ub'] <;> omega))) | (with_reducible refine ev_ne ?_ ?_; (first | omega | (simp (disch := omega) only [zi_ui, zi_ui', zl_ui, za_ui, zb_ui, zi_ul, zl_ul, zl_ul', za_ul, zb_ul, zi_ua, zl_ua, zb_ua, za_ua, za_ua', zi_ub, zl_ub, za_ub, zb_ub, zb_ub'] <;> omega))) | (with_reducible refine ev_01 ?_ ?_; (first | omega | (simp (disch := omega) only [zi_ui, zi_ui', zl_ui, za_ui, zb_ui, zi_ul, zl_ul, zl_ul', za_ul, zb_ul, zi_ua, zl_ua, zb_ua, za_ua, za_ua', zi_ub, zl_ub, za_ub, zb_ub, zb_ub'] <;> omega))))
    rw [zpk b1' (by omega) (by omega) (by omega)]
