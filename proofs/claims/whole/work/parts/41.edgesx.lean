/-! the class's edges -/
theorem fillN_p {v : Int} : ∀ (fu j : Nat) (X : SZ), j ≤ 256 → 256 < j + fu → (∀ i, i < j → za X 11 i = v) → Ok (f_J7_fill_number_p5 fu X v j 256) (fun X1 => Fr [] [11] [] [] X X1 ∧ ∀ i, i < 256 → za X1 11 i = v) := by
  intro fu
  induction fu with
  | zero => intro j X h1 h2; exact absurd h2 (by omega)
  | succ fu ih =>
    intro j X h1 h2 h3
    by_cases hj : j = 256
    · subst hj
      refine ⟨X, ?_, Fr.rf _ _ _ _ X, h3⟩
      rw [f_J7_fill_number_p5]
      (repeat first | (with_reducible refine ev_let ?_) | (with_reducible refine ev_rng ?_ ?_ ?_; (first | omega | (simp (disch := omega) only [zi_ui, zi_ui', zl_ui, za_ui, zb_ui, zi_ul, zl_ul, zl_ul', za_ul, zb_ul, zi_ua, zl_ua, zb_ua, za_ua, za_ua', zi_ub, zl_ub, za_ub, zb_ub, zb_ub'] <;> omega)); (first | omega | (simp (disch := omega) only [zi_ui, zi_ui', zl_ui, za_ui, zb_ui, zi_ul, zl_ul, zl_ul', za_ul, zb_ul, zi_ua, zl_ua, zb_ua, za_ua, za_ua', zi_ub, zl_ub, za_ub, zb_ub, zb_ub'] <;> omega))) | (with_reducible refine ev_ins ?_ ?_ ?_; (first | omega | (simp (disch := omega) only [zi_ui, zi_ui', zl_ui, za_ui, zb_ui, zi_ul, zl_ul, zl_ul', za_ul, zb_ul, zi_ua, zl_ua, zb_ua, za_ua, za_ua', zi_ub, zl_ub, za_ub, zb_ub, zb_ub'] <;> omega)); (first | omega | (simp (disch := omega) only [zi_ui, zi_ui', zl_ui, za_ui, zb_ui, zi_ul, zl_ul, zl_ul', za_ul, zb_ul, zi_ua, zl_ua, zb_ua, za_ua, za_ua', zi_ub, zl_ub, za_ub, zb_ub, zb_ub'] <;> omega))) | (with_reducible refine ev_if1 ?_ ?_; (first | omega | (simp (disch := omega) only [zi_ui, zi_ui', zl_ui, za_ui, zb_ui, zi_ul, zl_ul, zl_ul', za_ul, zb_ul, zi_ua, zl_ua, zb_ua, za_ua, za_ua', zi_ub, zl_ub, za_ub, zb_ub, zb_ub'] <;> omega))) | (with_reducible refine ev_if0 ?_ ?_; (first | omega | (simp (disch := omega) only [zi_ui, zi_ui', zl_ui, za_ui, zb_ui, zi_ul, zl_ul, zl_ul', za_ul, zb_ul, zi_ua, zl_ua, zb_ua, za_ua, za_ua', zi_ub, zl_ub, za_ub, zb_ub, zb_ub'] <;> omega))) | (with_reducible refine ev_rnl ?_ ?_ ?_; (first | omega | (simp (disch := omega) only [zi_ui, zi_ui', zl_ui, za_ui, zb_ui, zi_ul, zl_ul, zl_ul', za_ul, zb_ul, zi_ua, zl_ua, zb_ua, za_ua, za_ua', zi_ub, zl_ub, za_ub, zb_ub, zb_ub'] <;> omega)); (first | omega | (simp (disch := omega) only [zi_ui, zi_ui', zl_ui, za_ui, zb_ui, zi_ul, zl_ul, zl_ul', za_ul, zb_ul, zi_ua, zl_ua, zb_ua, za_ua, za_ua', zi_ub, zl_ub, za_ub, zb_ub, zb_ub'] <;> omega))) | (with_reducible refine ev_ne ?_ ?_; (first | omega | (simp (disch := omega) only [zi_ui, zi_ui', zl_ui, za_ui, zb_ui, zi_ul, zl_ul, zl_ul', za_ul, zb_ul, zi_ua, zl_ua, zb_ua, za_ua, za_ua', zi_ub, zl_ub, za_ub, zb_ub, zb_ub'] <;> omega))) | (with_reducible refine ev_01 ?_ ?_; (first | omega | (simp (disch := omega) only [zi_ui, zi_ui', zl_ui, za_ui, zb_ui, zi_ul, zl_ul, zl_ul', za_ul, zb_ul, zi_ua, zl_ua, zb_ua, za_ua, za_ua', zi_ub, zl_ub, za_ub, zb_ub, zb_ub'] <;> omega))))
      rfl
    · obtain ⟨X1, q1, q2, q3⟩ := ih (j + 1) (ua X 11 j v) (by omega) (by omega) (by
        intro i hi
        rw [za_uai]
        split
        · rfl
        · exact h3 i (by omega))
      refine ⟨X1, ?_, ((Fr.rf _ _ _ _ X).ua (by decide) _ _).tr q2, q3⟩
      rw [f_J7_fill_number_p5]
      (repeat first | (with_reducible refine ev_let ?_) | (with_reducible refine ev_rng ?_ ?_ ?_; (first | omega | (simp (disch := omega) only [zi_ui, zi_ui', zl_ui, za_ui, zb_ui, zi_ul, zl_ul, zl_ul', za_ul, zb_ul, zi_ua, zl_ua, zb_ua, za_ua, za_ua', zi_ub, zl_ub, za_ub, zb_ub, zb_ub'] <;> omega)); (first | omega | (simp (disch := omega) only [zi_ui, zi_ui', zl_ui, za_ui, zb_ui, zi_ul, zl_ul, zl_ul', za_ul, zb_ul, zi_ua, zl_ua, zb_ua, za_ua, za_ua', zi_ub, zl_ub, za_ub, zb_ub, zb_ub'] <;> omega))) | (with_reducible refine ev_ins ?_ ?_ ?_; (first | omega | (simp (disch := omega) only [zi_ui, zi_ui', zl_ui, za_ui, zb_ui, zi_ul, zl_ul, zl_ul', za_ul, zb_ul, zi_ua, zl_ua, zb_ua, za_ua, za_ua', zi_ub, zl_ub, za_ub, zb_ub, zb_ub'] <;> omega)); (first | omega | (simp (disch := omega) only [zi_ui, zi_ui', zl_ui, za_ui, zb_ui, zi_ul, zl_ul, zl_ul', za_ul, zb_ul, zi_ua, zl_ua, zb_ua, za_ua, za_ua', zi_ub, zl_ub, za_ub, zb_ub, zb_ub'] <;> omega))) | (with_reducible refine ev_if1 ?_ ?_; (first | omega | (simp (disch := omega) only [zi_ui, zi_ui', zl_ui, za_ui, zb_ui, zi_ul, zl_ul, zl_ul', za_ul, zb_ul, zi_ua, zl_ua, zb_ua, za_ua, za_ua', zi_ub, zl_ub, za_ub, zb_ub, zb_ub'] <;> omega))) | (with_reducible refine ev_if0 ?_ ?_; (first | omega | (simp (disch := omega) only [zi_ui, zi_ui', zl_ui, za_ui, zb_ui, zi_ul, zl_ul, zl_ul', za_ul, zb_ul, zi_ua, zl_ua, zb_ua, za_ua, za_ua', zi_ub, zl_ub, za_ub, zb_ub, zb_ub'] <;> omega))) | (with_reducible refine ev_rnl ?_ ?_ ?_; (first | omega | (simp (disch := omega) only [zi_ui, zi_ui', zl_ui, za_ui, zb_ui, zi_ul, zl_ul, zl_ul', za_ul, zb_ul, zi_ua, zl_ua, zb_ua, za_ua, za_ua', zi_ub, zl_ub, za_ub, zb_ub, zb_ub'] <;> omega)); (first | omega | (simp (disch := omega) only [zi_ui, zi_ui', zl_ui, za_ui, zb_ui, zi_ul, zl_ul, zl_ul', za_ul, zb_ul, zi_ua, zl_ua, zb_ua, za_ua, za_ua', zi_ub, zl_ub, za_ub, zb_ub, zb_ub'] <;> omega))) | (with_reducible refine ev_ne ?_ ?_; (first | omega | (simp (disch := omega) only [zi_ui, zi_ui', zl_ui, za_ui, zb_ui, zi_ul, zl_ul, zl_ul', za_ul, zb_ul, zi_ua, zl_ua, zb_ua, za_ua, za_ua', zi_ub, zl_ub, za_ub, zb_ub, zb_ub'] <;> omega))) | (with_reducible refine ev_01 ?_ ?_; (first | omega | (simp (disch := omega) only [zi_ui, zi_ui', zl_ui, za_ui, zb_ui, zi_ul, zl_ul, zl_ul', za_ul, zb_ul, zi_ua, zl_ua, zb_ua, za_ua, za_ua', zi_ub, zl_ub, za_ub, zb_ub, zb_ub'] <;> omega))))
      exact q1
theorem fillS_p {v : Int} : ∀ (fu j : Nat) (X : SZ), j ≤ 256 → 256 < j + fu → (∀ i, i < j → za X 12 i = v) → Ok (f_J7_fill_shared_p5 fu X v j 256) (fun X1 => Fr [] [12] [] [] X X1 ∧ ∀ i, i < 256 → za X1 12 i = v) := by
  intro fu
  induction fu with
  | zero => intro j X h1 h2; exact absurd h2 (by omega)
  | succ fu ih =>
    intro j X h1 h2 h3
    by_cases hj : j = 256
    · subst hj
      refine ⟨X, ?_, Fr.rf _ _ _ _ X, h3⟩
      rw [f_J7_fill_shared_p5]
      (repeat first | (with_reducible refine ev_let ?_) | (with_reducible refine ev_rng ?_ ?_ ?_; (first | omega | (simp (disch := omega) only [zi_ui, zi_ui', zl_ui, za_ui, zb_ui, zi_ul, zl_ul, zl_ul', za_ul, zb_ul, zi_ua, zl_ua, zb_ua, za_ua, za_ua', zi_ub, zl_ub, za_ub, zb_ub, zb_ub'] <;> omega)); (first | omega | (simp (disch := omega) only [zi_ui, zi_ui', zl_ui, za_ui, zb_ui, zi_ul, zl_ul, zl_ul', za_ul, zb_ul, zi_ua, zl_ua, zb_ua, za_ua, za_ua', zi_ub, zl_ub, za_ub, zb_ub, zb_ub'] <;> omega))) | (with_reducible refine ev_ins ?_ ?_ ?_; (first | omega | (simp (disch := omega) only [zi_ui, zi_ui', zl_ui, za_ui, zb_ui, zi_ul, zl_ul, zl_ul', za_ul, zb_ul, zi_ua, zl_ua, zb_ua, za_ua, za_ua', zi_ub, zl_ub, za_ub, zb_ub, zb_ub'] <;> omega)); (first | omega | (simp (disch := omega) only [zi_ui, zi_ui', zl_ui, za_ui, zb_ui, zi_ul, zl_ul, zl_ul', za_ul, zb_ul, zi_ua, zl_ua, zb_ua, za_ua, za_ua', zi_ub, zl_ub, za_ub, zb_ub, zb_ub'] <;> omega))) | (with_reducible refine ev_if1 ?_ ?_; (first | omega | (simp (disch := omega) only [zi_ui, zi_ui', zl_ui, za_ui, zb_ui, zi_ul, zl_ul, zl_ul', za_ul, zb_ul, zi_ua, zl_ua, zb_ua, za_ua, za_ua', zi_ub, zl_ub, za_ub, zb_ub, zb_ub'] <;> omega))) | (with_reducible refine ev_if0 ?_ ?_; (first | omega | (simp (disch := omega) only [zi_ui, zi_ui', zl_ui, za_ui, zb_ui, zi_ul, zl_ul, zl_ul', za_ul, zb_ul, zi_ua, zl_ua, zb_ua, za_ua, za_ua', zi_ub, zl_ub, za_ub, zb_ub, zb_ub'] <;> omega))) | (with_reducible refine ev_rnl ?_ ?_ ?_; (first | omega | (simp (disch := omega) only [zi_ui, zi_ui', zl_ui, za_ui, zb_ui, zi_ul, zl_ul, zl_ul', za_ul, zb_ul, zi_ua, zl_ua, zb_ua, za_ua, za_ua', zi_ub, zl_ub, za_ub, zb_ub, zb_ub'] <;> omega)); (first | omega | (simp (disch := omega) only [zi_ui, zi_ui', zl_ui, za_ui, zb_ui, zi_ul, zl_ul, zl_ul', za_ul, zb_ul, zi_ua, zl_ua, zb_ua, za_ua, za_ua', zi_ub, zl_ub, za_ub, zb_ub, zb_ub'] <;> omega))) | (with_reducible refine ev_ne ?_ ?_; (first | omega | (simp (disch := omega) only [zi_ui, zi_ui', zl_ui, za_ui, zb_ui, zi_ul, zl_ul, zl_ul', za_ul, zb_ul, zi_ua, zl_ua, zb_ua, za_ua, za_ua', zi_ub, zl_ub, za_ub, zb_ub, zb_ub'] <;> omega))) | (with_reducible refine ev_01 ?_ ?_; (first | omega | (simp (disch := omega) only [zi_ui, zi_ui', zl_ui, za_ui, zb_ui, zi_ul, zl_ul, zl_ul', za_ul, zb_ul, zi_ua, zl_ua, zb_ua, za_ua, za_ua', zi_ub, zl_ub, za_ub, zb_ub, zb_ub'] <;> omega))))
      rfl
    · obtain ⟨X1, q1, q2, q3⟩ := ih (j + 1) (ua X 12 j v) (by omega) (by omega) (by
        intro i hi
        rw [za_uai]
        split
        · rfl
        · exact h3 i (by omega))
      refine ⟨X1, ?_, ((Fr.rf _ _ _ _ X).ua (by decide) _ _).tr q2, q3⟩
      rw [f_J7_fill_shared_p5]
      (repeat first | (with_reducible refine ev_let ?_) | (with_reducible refine ev_rng ?_ ?_ ?_; (first | omega | (simp (disch := omega) only [zi_ui, zi_ui', zl_ui, za_ui, zb_ui, zi_ul, zl_ul, zl_ul', za_ul, zb_ul, zi_ua, zl_ua, zb_ua, za_ua, za_ua', zi_ub, zl_ub, za_ub, zb_ub, zb_ub'] <;> omega)); (first | omega | (simp (disch := omega) only [zi_ui, zi_ui', zl_ui, za_ui, zb_ui, zi_ul, zl_ul, zl_ul', za_ul, zb_ul, zi_ua, zl_ua, zb_ua, za_ua, za_ua', zi_ub, zl_ub, za_ub, zb_ub, zb_ub'] <;> omega))) | (with_reducible refine ev_ins ?_ ?_ ?_; (first | omega | (simp (disch := omega) only [zi_ui, zi_ui', zl_ui, za_ui, zb_ui, zi_ul, zl_ul, zl_ul', za_ul, zb_ul, zi_ua, zl_ua, zb_ua, za_ua, za_ua', zi_ub, zl_ub, za_ub, zb_ub, zb_ub'] <;> omega)); (first | omega | (simp (disch := omega) only [zi_ui, zi_ui', zl_ui, za_ui, zb_ui, zi_ul, zl_ul, zl_ul', za_ul, zb_ul, zi_ua, zl_ua, zb_ua, za_ua, za_ua', zi_ub, zl_ub, za_ub, zb_ub, zb_ub'] <;> omega))) | (with_reducible refine ev_if1 ?_ ?_; (first | omega | (simp (disch := omega) only [zi_ui, zi_ui', zl_ui, za_ui, zb_ui, zi_ul, zl_ul, zl_ul', za_ul, zb_ul, zi_ua, zl_ua, zb_ua, za_ua, za_ua', zi_ub, zl_ub, za_ub, zb_ub, zb_ub'] <;> omega))) | (with_reducible refine ev_if0 ?_ ?_; (first | omega | (simp (disch := omega) only [zi_ui, zi_ui', zl_ui, za_ui, zb_ui, zi_ul, zl_ul, zl_ul', za_ul, zb_ul, zi_ua, zl_ua, zb_ua, za_ua, za_ua', zi_ub, zl_ub, za_ub, zb_ub, zb_ub'] <;> omega))) | (with_reducible refine ev_rnl ?_ ?_ ?_; (first | omega | (simp (disch := omega) only [zi_ui, zi_ui', zl_ui, za_ui, zb_ui, zi_ul, zl_ul, zl_ul', za_ul, zb_ul, zi_ua, zl_ua, zb_ua, za_ua, za_ua', zi_ub, zl_ub, za_ub, zb_ub, zb_ub'] <;> omega)); (first | omega | (simp (disch := omega) only [zi_ui, zi_ui', zl_ui, za_ui, zb_ui, zi_ul, zl_ul, zl_ul', za_ul, zb_ul, zi_ua, zl_ua, zb_ua, za_ua, za_ua', zi_ub, zl_ub, za_ub, zb_ub, zb_ub'] <;> omega))) | (with_reducible refine ev_ne ?_ ?_; (first | omega | (simp (disch := omega) only [zi_ui, zi_ui', zl_ui, za_ui, zb_ui, zi_ul, zl_ul, zl_ul', za_ul, zb_ul, zi_ua, zl_ua, zb_ua, za_ua, za_ua', zi_ub, zl_ub, za_ub, zb_ub, zb_ub'] <;> omega))) | (with_reducible refine ev_01 ?_ ?_; (first | omega | (simp (disch := omega) only [zi_ui, zi_ui', zl_ui, za_ui, zb_ui, zi_ul, zl_ul, zl_ul', za_ul, zb_ul, zi_ua, zl_ua, zb_ua, za_ua, za_ua', zi_ub, zl_ub, za_ub, zb_ub, zb_ub'] <;> omega))))
      exact q1
def mx (a b : Nat) : Nat := if a < b then 16 * a + b else 16 * b + a
theorem mx_eq {a b p q : Nat} (ha : a < 16) (hb : b < 16) (hab : a ≠ b) (hp : p < 16) (hq : q < 16) (hpq : p < q) : 16 * p + q = mx a b ↔ (a = p ∧ b = q) ∨ (a = q ∧ b = p) := by
  unfold mx
  split <;> omega
theorem share_e {X : SZ} {a b : Nat} (ha : a < 16) (hb : b < 16) (hab : a ≠ b) : f_X1_share X a b = some (ua X 12 (mx a b) (za X 12 (mx a b) + 1)) := by
  unfold f_X1_share mx
  by_cases h : a < b
  · rw [if_neg (show ¬ (b : Int) < a by omega), if_pos (show (a : Int) < b by omega), if_pos h, show ((a : Int) * 16 + b).toNat = 16 * a + b by omega]
    (repeat first | (with_reducible refine ev_let ?_) | (with_reducible refine ev_rng ?_ ?_ ?_; (first | omega | (simp (disch := omega) only [zi_ui, zi_ui', zl_ui, za_ui, zb_ui, zi_ul, zl_ul, zl_ul', za_ul, zb_ul, zi_ua, zl_ua, zb_ua, za_ua, za_ua', zi_ub, zl_ub, za_ub, zb_ub, zb_ub'] <;> omega)); (first | omega | (simp (disch := omega) only [zi_ui, zi_ui', zl_ui, za_ui, zb_ui, zi_ul, zl_ul, zl_ul', za_ul, zb_ul, zi_ua, zl_ua, zb_ua, za_ua, za_ua', zi_ub, zl_ub, za_ub, zb_ub, zb_ub'] <;> omega))) | (with_reducible refine ev_ins ?_ ?_ ?_; (first | omega | (simp (disch := omega) only [zi_ui, zi_ui', zl_ui, za_ui, zb_ui, zi_ul, zl_ul, zl_ul', za_ul, zb_ul, zi_ua, zl_ua, zb_ua, za_ua, za_ua', zi_ub, zl_ub, za_ub, zb_ub, zb_ub'] <;> omega)); (first | omega | (simp (disch := omega) only [zi_ui, zi_ui', zl_ui, za_ui, zb_ui, zi_ul, zl_ul, zl_ul', za_ul, zb_ul, zi_ua, zl_ua, zb_ua, za_ua, za_ua', zi_ub, zl_ub, za_ub, zb_ub, zb_ub'] <;> omega))) | (with_reducible refine ev_if1 ?_ ?_; (first | omega | (simp (disch := omega) only [zi_ui, zi_ui', zl_ui, za_ui, zb_ui, zi_ul, zl_ul, zl_ul', za_ul, zb_ul, zi_ua, zl_ua, zb_ua, za_ua, za_ua', zi_ub, zl_ub, za_ub, zb_ub, zb_ub'] <;> omega))) | (with_reducible refine ev_if0 ?_ ?_; (first | omega | (simp (disch := omega) only [zi_ui, zi_ui', zl_ui, za_ui, zb_ui, zi_ul, zl_ul, zl_ul', za_ul, zb_ul, zi_ua, zl_ua, zb_ua, za_ua, za_ua', zi_ub, zl_ub, za_ub, zb_ub, zb_ub'] <;> omega))) | (with_reducible refine ev_rnl ?_ ?_ ?_; (first | omega | (simp (disch := omega) only [zi_ui, zi_ui', zl_ui, za_ui, zb_ui, zi_ul, zl_ul, zl_ul', za_ul, zb_ul, zi_ua, zl_ua, zb_ua, za_ua, za_ua', zi_ub, zl_ub, za_ub, zb_ub, zb_ub'] <;> omega)); (first | omega | (simp (disch := omega) only [zi_ui, zi_ui', zl_ui, za_ui, zb_ui, zi_ul, zl_ul, zl_ul', za_ul, zb_ul, zi_ua, zl_ua, zb_ua, za_ua, za_ua', zi_ub, zl_ub, za_ub, zb_ub, zb_ub'] <;> omega))) | (with_reducible refine ev_ne ?_ ?_; (first | omega | (simp (disch := omega) only [zi_ui, zi_ui', zl_ui, za_ui, zb_ui, zi_ul, zl_ul, zl_ul', za_ul, zb_ul, zi_ua, zl_ua, zb_ua, za_ua, za_ua', zi_ub, zl_ub, za_ub, zb_ub, zb_ub'] <;> omega))) | (with_reducible refine ev_01 ?_ ?_; (first | omega | (simp (disch := omega) only [zi_ui, zi_ui', zl_ui, za_ui, zb_ui, zi_ul, zl_ul, zl_ul', za_ul, zb_ul, zi_ua, zl_ua, zb_ua, za_ua, za_ua', zi_ub, zl_ub, za_ub, zb_ub, zb_ub'] <;> omega))))
    rfl
  · rw [if_pos (show (b : Int) < a by omega), if_neg (show ¬ (a : Int) < b by omega), if_neg h, show ((b : Int) * 16 + a).toNat = 16 * b + a by omega]
    (repeat first | (with_reducible refine ev_let ?_) | (with_reducible refine ev_rng ?_ ?_ ?_; (first | omega | (simp (disch := omega) only [zi_ui, zi_ui', zl_ui, za_ui, zb_ui, zi_ul, zl_ul, zl_ul', za_ul, zb_ul, zi_ua, zl_ua, zb_ua, za_ua, za_ua', zi_ub, zl_ub, za_ub, zb_ub, zb_ub'] <;> omega)); (first | omega | (simp (disch := omega) only [zi_ui, zi_ui', zl_ui, za_ui, zb_ui, zi_ul, zl_ul, zl_ul', za_ul, zb_ul, zi_ua, zl_ua, zb_ua, za_ua, za_ua', zi_ub, zl_ub, za_ub, zb_ub, zb_ub'] <;> omega))) | (with_reducible refine ev_ins ?_ ?_ ?_; (first | omega | (simp (disch := omega) only [zi_ui, zi_ui', zl_ui, za_ui, zb_ui, zi_ul, zl_ul, zl_ul', za_ul, zb_ul, zi_ua, zl_ua, zb_ua, za_ua, za_ua', zi_ub, zl_ub, za_ub, zb_ub, zb_ub'] <;> omega)); (first | omega | (simp (disch := omega) only [zi_ui, zi_ui', zl_ui, za_ui, zb_ui, zi_ul, zl_ul, zl_ul', za_ul, zb_ul, zi_ua, zl_ua, zb_ua, za_ua, za_ua', zi_ub, zl_ub, za_ub, zb_ub, zb_ub'] <;> omega))) | (with_reducible refine ev_if1 ?_ ?_; (first | omega | (simp (disch := omega) only [zi_ui, zi_ui', zl_ui, za_ui, zb_ui, zi_ul, zl_ul, zl_ul', za_ul, zb_ul, zi_ua, zl_ua, zb_ua, za_ua, za_ua', zi_ub, zl_ub, za_ub, zb_ub, zb_ub'] <;> omega))) | (with_reducible refine ev_if0 ?_ ?_; (first | omega | (simp (disch := omega) only [zi_ui, zi_ui', zl_ui, za_ui, zb_ui, zi_ul, zl_ul, zl_ul', za_ul, zb_ul, zi_ua, zl_ua, zb_ua, za_ua, za_ua', zi_ub, zl_ub, za_ub, zb_ub, zb_ub'] <;> omega))) | (with_reducible refine ev_rnl ?_ ?_ ?_; (first | omega | (simp (disch := omega) only [zi_ui, zi_ui', zl_ui, za_ui, zb_ui, zi_ul, zl_ul, zl_ul', za_ul, zb_ul, zi_ua, zl_ua, zb_ua, za_ua, za_ua', zi_ub, zl_ub, za_ub, zb_ub, zb_ub'] <;> omega)); (first | omega | (simp (disch := omega) only [zi_ui, zi_ui', zl_ui, za_ui, zb_ui, zi_ul, zl_ul, zl_ul', za_ul, zb_ul, zi_ua, zl_ua, zb_ua, za_ua, za_ua', zi_ub, zl_ub, za_ub, zb_ub, zb_ub'] <;> omega))) | (with_reducible refine ev_ne ?_ ?_; (first | omega | (simp (disch := omega) only [zi_ui, zi_ui', zl_ui, za_ui, zb_ui, zi_ul, zl_ul, zl_ul', za_ul, zb_ul, zi_ua, zl_ua, zb_ua, za_ua, za_ua', zi_ub, zl_ub, za_ub, zb_ub, zb_ub'] <;> omega))) | (with_reducible refine ev_01 ?_ ?_; (first | omega | (simp (disch := omega) only [zi_ui, zi_ui', zl_ui, za_ui, zb_ui, zi_ul, zl_ul, zl_ul', za_ul, zb_ul, zi_ua, zl_ua, zb_ua, za_ua, za_ua', zi_ub, zl_ub, za_ub, zb_ub, zb_ub'] <;> omega))))
    rfl
/-- how many faces under a number have both corners -/
def cn (c : SZ) (p q : Nat) : Nat → Nat
  | 0 => 0
  | f + 1 => cn c p q f + if cm c p q f then 1 else 0
theorem cn_cfl {c : SZ} {p q : Nat} : ∀ (k f : Nat), cn c p q f + (cfl c p q f k).length = cn c p q (f + k)
  | 0, f => by simp [cfl]
  | k + 1, f => by
    have := cn_cfl (c := c) (p := p) (q := q) k (f + 1)
    rw [cn, show f + 1 + k = f + (k + 1) by omega] at this
    by_cases h : cm c p q f
    · rw [cfl_1 h, ← this, if_pos h]; simp; omega
    · rw [cfl_0 h, ← this, if_neg h]; omega
theorem cn_CF (c : SZ) (p q : Nat) : cn c p q (nf c) = (CF c p q).length := by
  have := cn_cfl (c := c) (p := p) (q := q) (nf c) 0
  rw [show (0 + nf c) = nf c by omega] at this
  rw [← this]
  simp [cn, CF]
theorem cor_ne {c : SZ} (hg : Gd c) {f : Nat} (hf : (f : Int) < zi c 1) : cor c f 0 ≠ cor c f 1 ∧ cor c f 0 ≠ cor c f 2 ∧ cor c f 1 ≠ cor c f 2 := by
  have h := (hg.2.2.2.2.2.2.1 f hf).2
  have c0 := cor_int hg f 0
  have c1 := cor_int hg f 1
  have c2 := cor_int hg f 2
  rw [Nat.add_zero] at c0
  omega
def ShOK (c X : SZ) (f : Nat) : Prop := ∀ p q, p < q → q < 16 → za X 12 (16 * p + q) = cn c p q f
theorem share_p {c : SZ} (hg : Gd c) {P : SZ → Prop} : ∀ (fu f : Nat) (X : SZ), Msh X c → (f : Int) ≤ zi c 1 → zi c 1 < f + fu → ShOK c X f → (∀ X1, Msh X1 c → Fr [] [12] [] [] X X1 → ShOK c X1 (nf c) → Ok (f_X1_rebuild_p88 FU (ui X1 9 0) 0) P) → Ok (f_X1_rebuild_p19 fu X f) P := by
  have g0 := hg.1
  have g1 := hg.2.1
  intro fu
  induction fu with
  | zero => intro f X hm h1 h2; exact absurd h2 (by omega)
  | succ fu ih =>
    intro f X hm h1 h2 hs K
    obtain ⟨e0, e1, e2, e3, e4, e5, ex, ey, ez, ec, ew, ev, eb⟩ := id hm
    by_cases hf : (f : Int) = zi c 1
    · obtain ⟨X1, q1, q2⟩ := K X hm (Fr.rf _ _ _ _ X) (by rw [show nf c = f by unfold nf; omega]; exact hs)
      refine ⟨X1, ?_, q2⟩
      rw [f_X1_rebuild_p19]
      (repeat first | (with_reducible refine ev_let ?_) | (with_reducible refine ev_rng ?_ ?_ ?_; (first | omega | (simp (disch := omega) only [zi_ui, zi_ui', zl_ui, za_ui, zb_ui, zi_ul, zl_ul, zl_ul', za_ul, zb_ul, zi_ua, zl_ua, zb_ua, za_ua, za_ua', zi_ub, zl_ub, za_ub, zb_ub, zb_ub'] <;> omega)); (first | omega | (simp (disch := omega) only [zi_ui, zi_ui', zl_ui, za_ui, zb_ui, zi_ul, zl_ul, zl_ul', za_ul, zb_ul, zi_ua, zl_ua, zb_ua, za_ua, za_ua', zi_ub, zl_ub, za_ub, zb_ub, zb_ub'] <;> omega))) | (with_reducible refine ev_ins ?_ ?_ ?_; (first | omega | (simp (disch := omega) only [zi_ui, zi_ui', zl_ui, za_ui, zb_ui, zi_ul, zl_ul, zl_ul', za_ul, zb_ul, zi_ua, zl_ua, zb_ua, za_ua, za_ua', zi_ub, zl_ub, za_ub, zb_ub, zb_ub'] <;> omega)); (first | omega | (simp (disch := omega) only [zi_ui, zi_ui', zl_ui, za_ui, zb_ui, zi_ul, zl_ul, zl_ul', za_ul, zb_ul, zi_ua, zl_ua, zb_ua, za_ua, za_ua', zi_ub, zl_ub, za_ub, zb_ub, zb_ub'] <;> omega))) | (with_reducible refine ev_if1 ?_ ?_; (first | omega | (simp (disch := omega) only [zi_ui, zi_ui', zl_ui, za_ui, zb_ui, zi_ul, zl_ul, zl_ul', za_ul, zb_ul, zi_ua, zl_ua, zb_ua, za_ua, za_ua', zi_ub, zl_ub, za_ub, zb_ub, zb_ub'] <;> omega))) | (with_reducible refine ev_if0 ?_ ?_; (first | omega | (simp (disch := omega) only [zi_ui, zi_ui', zl_ui, za_ui, zb_ui, zi_ul, zl_ul, zl_ul', za_ul, zb_ul, zi_ua, zl_ua, zb_ua, za_ua, za_ua', zi_ub, zl_ub, za_ub, zb_ub, zb_ub'] <;> omega))) | (with_reducible refine ev_rnl ?_ ?_ ?_; (first | omega | (simp (disch := omega) only [zi_ui, zi_ui', zl_ui, za_ui, zb_ui, zi_ul, zl_ul, zl_ul', za_ul, zb_ul, zi_ua, zl_ua, zb_ua, za_ua, za_ua', zi_ub, zl_ub, za_ub, zb_ub, zb_ub'] <;> omega)); (first | omega | (simp (disch := omega) only [zi_ui, zi_ui', zl_ui, za_ui, zb_ui, zi_ul, zl_ul, zl_ul', za_ul, zb_ul, zi_ua, zl_ua, zb_ua, za_ua, za_ua', zi_ub, zl_ub, za_ub, zb_ub, zb_ub'] <;> omega))) | (with_reducible refine ev_ne ?_ ?_; (first | omega | (simp (disch := omega) only [zi_ui, zi_ui', zl_ui, za_ui, zb_ui, zi_ul, zl_ul, zl_ul', za_ul, zb_ul, zi_ua, zl_ua, zb_ua, za_ua, za_ua', zi_ub, zl_ub, za_ub, zb_ub, zb_ub'] <;> omega))) | (with_reducible refine ev_01 ?_ ?_; (first | omega | (simp (disch := omega) only [zi_ui, zi_ui', zl_ui, za_ui, zb_ui, zi_ul, zl_ul, zl_ul', za_ul, zb_ul, zi_ua, zl_ua, zb_ua, za_ua, za_ua', zi_ub, zl_ub, za_ub, zb_ub, zb_ub'] <;> omega))))
      exact q1
    · have hf2 : (f : Int) < zi c 1 := by omega
      have c0 := cor_lt hg hf2 (show 0 < 3 by omega)
      have c1 := cor_lt hg hf2 (show 1 < 3 by omega)
      have c2 := cor_lt hg hf2 (show 2 < 3 by omega)
      obtain ⟨n1, n2, n3⟩ := cor_ne hg hf2
      have F1 := (Fr.rf [] [12] [] [] X).ua (k := 12) (by decide) (mx (cor c f 0) (cor c f 1)) (za X 12 (mx (cor c f 0) (cor c f 1)) + 1)
      have hm1 := msh_fr hm F1 (by simp) (by intro k _ _; simp; omega)
      generalize hX1 : ua X 12 (mx (cor c f 0) (cor c f 1)) (za X 12 (mx (cor c f 0) (cor c f 1)) + 1) = X1 at F1 hm1
      have F2 := F1.ua (k := 12) (by decide) (mx (cor c f 1) (cor c f 2)) (za X1 12 (mx (cor c f 1) (cor c f 2)) + 1)
      have hm2 := msh_fr hm F2 (by simp) (by intro k _ _; simp; omega)
      generalize hX2 : ua X1 12 (mx (cor c f 1) (cor c f 2)) (za X1 12 (mx (cor c f 1) (cor c f 2)) + 1) = X2 at F2 hm2
      have F3 := F2.ua (k := 12) (by decide) (mx (cor c f 2) (cor c f 0)) (za X2 12 (mx (cor c f 2) (cor c f 0)) + 1)
      have hm3 := msh_fr hm F3 (by simp) (by intro k _ _; simp; omega)
      generalize hX3 : ua X2 12 (mx (cor c f 2) (cor c f 0)) (za X2 12 (mx (cor c f 2) (cor c f 0)) + 1) = X3 at F3 hm3
      have s0 : f_X4_cornerOf X f 0 = some (X, (cor c f 0 : Int)) := cornerX hm hg (f := f) (i := 0) (by omega) (by omega)
      have s1 : f_X4_cornerOf X f 1 = some (X, (cor c f 1 : Int)) := cornerX hm hg (f := f) (i := 1) (by omega) (by omega)
      have s2 : f_X4_cornerOf X1 f 1 = some (X1, (cor c f 1 : Int)) := cornerX hm1 hg (f := f) (i := 1) (by omega) (by omega)
      have s3 : f_X4_cornerOf X1 f 2 = some (X1, (cor c f 2 : Int)) := cornerX hm1 hg (f := f) (i := 2) (by omega) (by omega)
      have s4 : f_X4_cornerOf X2 f 2 = some (X2, (cor c f 2 : Int)) := cornerX hm2 hg (f := f) (i := 2) (by omega) (by omega)
      have s5 : f_X4_cornerOf X2 f 0 = some (X2, (cor c f 0 : Int)) := cornerX hm2 hg (f := f) (i := 0) (by omega) (by omega)
      have t0 := share_e (X := X) (a := cor c f 0) (b := cor c f 1) (by omega) (by omega) (by omega)
      have t1 := share_e (X := X1) (a := cor c f 1) (b := cor c f 2) (by omega) (by omega) (by omega)
      have t2 := share_e (X := X2) (a := cor c f 2) (b := cor c f 0) (by omega) (by omega) (by omega)
      rw [hX1] at t0
      rw [hX2] at t1
      rw [hX3] at t2
      obtain ⟨X4, q1, q2⟩ := ih (f + 1) X3 hm3 (by omega) (by omega) (by
        intro p q hpq hq
        have m0 := mx_eq (a := cor c f 0) (b := cor c f 1) (p := p) (q := q) (by omega) (by omega) (by omega) (by omega) (by omega) hpq
        have m1 := mx_eq (a := cor c f 1) (b := cor c f 2) (p := p) (q := q) (by omega) (by omega) (by omega) (by omega) (by omega) hpq
        have m2 := mx_eq (a := cor c f 2) (b := cor c f 0) (p := p) (q := q) (by omega) (by omega) (by omega) (by omega) (by omega) hpq
        have old := hs p q hpq hq
        have z1 : za X1 12 (16 * p + q) = za X 12 (16 * p + q) + if 16 * p + q = mx (cor c f 0) (cor c f 1) then 1 else 0 := by
          rw [← hX1, za_uai]
          split
          · rename_i hh; rw [← hh]
          · omega
        have z2 : za X2 12 (16 * p + q) = za X1 12 (16 * p + q) + if 16 * p + q = mx (cor c f 1) (cor c f 2) then 1 else 0 := by
          rw [← hX2, za_uai]
          split
          · rename_i hh; rw [← hh]
          · omega
        have z3 : za X3 12 (16 * p + q) = za X2 12 (16 * p + q) + if 16 * p + q = mx (cor c f 2) (cor c f 0) then 1 else 0 := by
          rw [← hX3, za_uai]
          split
          · rename_i hh; rw [← hh]
          · omega
        rw [z3, z2, z1, old, cn]
        by_cases hc1 : cm c p q f
        · rw [if_pos hc1]
          obtain ⟨u1, u2⟩ := hc1
          by_cases w0 : 16 * p + q = mx (cor c f 0) (cor c f 1)
          · have := m0.mp w0
            rw [if_pos w0, if_neg (fun h => by have := m1.mp h; omega), if_neg (fun h => by have := m2.mp h; omega)]
            omega
          · by_cases w1 : 16 * p + q = mx (cor c f 1) (cor c f 2)
            · have := m1.mp w1
              rw [if_neg w0, if_pos w1, if_neg (fun h => by have := m2.mp h; omega)]
              omega
            · have n0 : ¬ ((cor c f 0 = p ∧ cor c f 1 = q) ∨ (cor c f 0 = q ∧ cor c f 1 = p)) := fun h => w0 (m0.mpr h)
              have n1 : ¬ ((cor c f 1 = p ∧ cor c f 2 = q) ∨ (cor c f 1 = q ∧ cor c f 2 = p)) := fun h => w1 (m1.mpr h)
              rw [if_neg w0, if_neg w1, if_pos (m2.mpr (by omega))]
              omega
        · rw [if_neg hc1, if_neg (fun h => by have := m0.mp h; exact hc1 (by unfold cm hc; omega)), if_neg (fun h => by have := m1.mp h; exact hc1 (by unfold cm hc; omega)), if_neg (fun h => by have := m2.mp h; exact hc1 (by unfold cm hc; omega))]
          omega) (fun X5 hm5 F5 => K X5 hm5 (F3.tr F5))
      refine ⟨X4, ?_, q2⟩
      rw [f_X1_rebuild_p19]
      (repeat first | (with_reducible refine ev_let ?_) | (with_reducible refine ev_ob2 (s0) ?_) | (with_reducible refine ev_ob1 (s0) ?_) | (with_reducible refine ev_ob2 (s1) ?_) | (with_reducible refine ev_ob1 (s1) ?_) | (with_reducible refine ev_ob2 (t0) ?_) | (with_reducible refine ev_ob1 (t0) ?_) | (with_reducible refine ev_ob2 (s2) ?_) | (with_reducible refine ev_ob1 (s2) ?_) | (with_reducible refine ev_ob2 (s3) ?_) | (with_reducible refine ev_ob1 (s3) ?_) | (with_reducible refine ev_ob2 (t1) ?_) | (with_reducible refine ev_ob1 (t1) ?_) | (with_reducible refine ev_ob2 (s4) ?_) | (with_reducible refine ev_ob1 (s4) ?_) | (with_reducible refine ev_ob2 (s5) ?_) | (with_reducible refine ev_ob1 (s5) ?_) | (with_reducible refine ev_ob2 (t2) ?_) | (with_reducible refine ev_ob1 (t2) ?_) | (with_reducible refine ev_rng ?_ ?_ ?_; (first | omega | (simp (disch := omega) only [zi_ui, zi_ui', zl_ui, za_ui, zb_ui, zi_ul, zl_ul, zl_ul', za_ul, zb_ul, zi_ua, zl_ua, zb_ua, za_ua, za_ua', zi_ub, zl_ub, za_ub, zb_ub, zb_ub'] <;> omega)); (first | omega | (simp (disch := omega) only [zi_ui, zi_ui', zl_ui, za_ui, zb_ui, zi_ul, zl_ul, zl_ul', za_ul, zb_ul, zi_ua, zl_ua, zb_ua, za_ua, za_ua', zi_ub, zl_ub, za_ub, zb_ub, zb_ub'] <;> omega))) | (with_reducible refine ev_ins ?_ ?_ ?_; (first | omega | (simp (disch := omega) only [zi_ui, zi_ui', zl_ui, za_ui, zb_ui, zi_ul, zl_ul, zl_ul', za_ul, zb_ul, zi_ua, zl_ua, zb_ua, za_ua, za_ua', zi_ub, zl_ub, za_ub, zb_ub, zb_ub'] <;> omega)); (first | omega | (simp (disch := omega) only [zi_ui, zi_ui', zl_ui, za_ui, zb_ui, zi_ul, zl_ul, zl_ul', za_ul, zb_ul, zi_ua, zl_ua, zb_ua, za_ua, za_ua', zi_ub, zl_ub, za_ub, zb_ub, zb_ub'] <;> omega))) | (with_reducible refine ev_if1 ?_ ?_; (first | omega | (simp (disch := omega) only [zi_ui, zi_ui', zl_ui, za_ui, zb_ui, zi_ul, zl_ul, zl_ul', za_ul, zb_ul, zi_ua, zl_ua, zb_ua, za_ua, za_ua', zi_ub, zl_ub, za_ub, zb_ub, zb_ub'] <;> omega))) | (with_reducible refine ev_if0 ?_ ?_; (first | omega | (simp (disch := omega) only [zi_ui, zi_ui', zl_ui, za_ui, zb_ui, zi_ul, zl_ul, zl_ul', za_ul, zb_ul, zi_ua, zl_ua, zb_ua, za_ua, za_ua', zi_ub, zl_ub, za_ub, zb_ub, zb_ub'] <;> omega))) | (with_reducible refine ev_rnl ?_ ?_ ?_; (first | omega | (simp (disch := omega) only [zi_ui, zi_ui', zl_ui, za_ui, zb_ui, zi_ul, zl_ul, zl_ul', za_ul, zb_ul, zi_ua, zl_ua, zb_ua, za_ua, za_ua', zi_ub, zl_ub, za_ub, zb_ub, zb_ub'] <;> omega)); (first | omega | (simp (disch := omega) only [zi_ui, zi_ui', zl_ui, za_ui, zb_ui, zi_ul, zl_ul, zl_ul', za_ul, zb_ul, zi_ua, zl_ua, zb_ua, za_ua, za_ua', zi_ub, zl_ub, za_ub, zb_ub, zb_ub'] <;> omega))) | (with_reducible refine ev_ne ?_ ?_; (first | omega | (simp (disch := omega) only [zi_ui, zi_ui', zl_ui, za_ui, zb_ui, zi_ul, zl_ul, zl_ul', za_ul, zb_ul, zi_ua, zl_ua, zb_ua, za_ua, za_ua', zi_ub, zl_ub, za_ub, zb_ub, zb_ub'] <;> omega))) | (with_reducible refine ev_01 ?_ ?_; (first | omega | (simp (disch := omega) only [zi_ui, zi_ui', zl_ui, za_ui, zb_ui, zi_ul, zl_ul, zl_ul', za_ul, zb_ul, zi_ua, zl_ua, zb_ua, za_ua, za_ua', zi_ub, zl_ub, za_ub, zb_ub, zb_ub'] <;> omega))))
      exact q1
def Num (X : SZ) (s : ER) : Prop := ∀ a b, a < 16 → b < 16 → (∃ e, e < s.1 ∧ ((s.2.1 e = a ∧ s.2.2 e = b) ∨ (s.2.1 e = b ∧ s.2.2 e = a)) ∧ za X 11 (16 * a + b) = e) ∨ ((∀ e, e < s.1 → ¬ ((s.2.1 e = a ∧ s.2.2 e = b) ∨ (s.2.1 e = b ∧ s.2.2 e = a))) ∧ za X 11 (16 * a + b) = -9)
def EdX (c X : SZ) (s : ER) : Prop := zi X 9 = s.1 ∧ (∀ e, e < s.1 → za X 13 e = s.2.1 e ∧ za X 14 e = s.2.2 e ∧ za X 15 e = (CF c (s.2.1 e) (s.2.2 e)).length) ∧ Num X s
theorem append_e {c X : SZ} {s : ER} (h : EdX c X s) (hs : ShOK c X (nf c)) {p q : Nat} (hp : p < q) (hq : q < 16) (hn : s.1 < 80) : Ok (f_X1_append X p q) (fun X1 => Fr [9] [11, 13, 14, 15] [] [] X X1 ∧ EdX c X1 (psh s p q)) := by
  obtain ⟨h9, he, hnum⟩ := h
  have F : Fr [9] [11, 13, 14, 15] [] [] X (ui (ua (ua (ua (ua (ua X 11 (16 * p + q) s.1) 11 (16 * q + p) s.1) 13 s.1 p) 14 s.1 q) 15 s.1 (za X 12 (16 * p + q))) 9 ((s.1 : Int) + 1)) := (((((((Fr.rf _ _ _ _ X).ua (by decide) _ _).ua (by decide) _ _).ua (by decide) _ _).ua (by decide) _ _).ua (by decide) _ _).ui (by decide) _)
  refine ⟨_, ?_, F, ?_, ?_, ?_⟩
  · unfold f_X1_append
    have i1 : ((p : Int) * 16 + q).toNat = 16 * p + q := by omega
    have i2 : ((q : Int) * 16 + p).toNat = 16 * q + p := by omega
    (repeat first | (with_reducible refine ev_let ?_) | (with_reducible refine ev_rng ?_ ?_ ?_; (first | omega | (simp (disch := omega) only [zi_ui, zi_ui', zl_ui, za_ui, zb_ui, zi_ul, zl_ul, zl_ul', za_ul, zb_ul, zi_ua, zl_ua, zb_ua, za_ua, za_ua', zi_ub, zl_ub, za_ub, zb_ub, zb_ub'] <;> omega)); (first | omega | (simp (disch := omega) only [zi_ui, zi_ui', zl_ui, za_ui, zb_ui, zi_ul, zl_ul, zl_ul', za_ul, zb_ul, zi_ua, zl_ua, zb_ua, za_ua, za_ua', zi_ub, zl_ub, za_ub, zb_ub, zb_ub'] <;> omega))) | (with_reducible refine ev_ins ?_ ?_ ?_; (first | omega | (simp (disch := omega) only [zi_ui, zi_ui', zl_ui, za_ui, zb_ui, zi_ul, zl_ul, zl_ul', za_ul, zb_ul, zi_ua, zl_ua, zb_ua, za_ua, za_ua', zi_ub, zl_ub, za_ub, zb_ub, zb_ub'] <;> omega)); (first | omega | (simp (disch := omega) only [zi_ui, zi_ui', zl_ui, za_ui, zb_ui, zi_ul, zl_ul, zl_ul', za_ul, zb_ul, zi_ua, zl_ua, zb_ua, za_ua, za_ua', zi_ub, zl_ub, za_ub, zb_ub, zb_ub'] <;> omega))) | (with_reducible refine ev_if1 ?_ ?_; (first | omega | (simp (disch := omega) only [zi_ui, zi_ui', zl_ui, za_ui, zb_ui, zi_ul, zl_ul, zl_ul', za_ul, zb_ul, zi_ua, zl_ua, zb_ua, za_ua, za_ua', zi_ub, zl_ub, za_ub, zb_ub, zb_ub'] <;> omega))) | (with_reducible refine ev_if0 ?_ ?_; (first | omega | (simp (disch := omega) only [zi_ui, zi_ui', zl_ui, za_ui, zb_ui, zi_ul, zl_ul, zl_ul', za_ul, zb_ul, zi_ua, zl_ua, zb_ua, za_ua, za_ua', zi_ub, zl_ub, za_ub, zb_ub, zb_ub'] <;> omega))) | (with_reducible refine ev_rnl ?_ ?_ ?_; (first | omega | (simp (disch := omega) only [zi_ui, zi_ui', zl_ui, za_ui, zb_ui, zi_ul, zl_ul, zl_ul', za_ul, zb_ul, zi_ua, zl_ua, zb_ua, za_ua, za_ua', zi_ub, zl_ub, za_ub, zb_ub, zb_ub'] <;> omega)); (first | omega | (simp (disch := omega) only [zi_ui, zi_ui', zl_ui, za_ui, zb_ui, zi_ul, zl_ul, zl_ul', za_ul, zb_ul, zi_ua, zl_ua, zb_ua, za_ua, za_ua', zi_ub, zl_ub, za_ub, zb_ub, zb_ub'] <;> omega))) | (with_reducible refine ev_ne ?_ ?_; (first | omega | (simp (disch := omega) only [zi_ui, zi_ui', zl_ui, za_ui, zb_ui, zi_ul, zl_ul, zl_ul', za_ul, zb_ul, zi_ua, zl_ua, zb_ua, za_ua, za_ua', zi_ub, zl_ub, za_ub, zb_ub, zb_ub'] <;> omega))) | (with_reducible refine ev_01 ?_ ?_; (first | omega | (simp (disch := omega) only [zi_ui, zi_ui', zl_ui, za_ui, zb_ui, zi_ul, zl_ul, zl_ul', za_ul, zb_ul, zi_ua, zl_ua, zb_ua, za_ua, za_ua', zi_ub, zl_ub, za_ub, zb_ub, zb_ub'] <;> omega))))
    simp (disch := omega) only [zi_ua, za_ua', h9, i1, i2, Int.toNat_natCast]
  · rw [zi_ui]; rfl
  · intro e he2
    have he3 : e < s.1 + 1 := he2
    simp only [psh]
    simp (disch := omega) only [za_ui, za_ua', za_uai]
    by_cases hh : e = s.1
    · simp only [if_pos hh]
      refine ⟨trivial, trivial, ?_⟩
      rw [hs p q hp hq, cn_CF]
    · simp only [if_neg hh]
      exact he e (by omega)
  · intro a b ha hb
    rw [za_ui, za_ua' _ _ _ _ (by omega), za_ua' _ _ _ _ (by omega), za_ua' _ _ _ _ (by omega), za_uai, za_uai]
    by_cases hh : (p = a ∧ q = b) ∨ (p = b ∧ q = a)
    · refine Or.inl ⟨s.1, by simp only [psh]; omega, by simp only [psh, if_pos]; exact hh, ?_⟩
      split
      · rfl
      · rw [if_pos (by omega)]
    · rw [if_neg (by omega), if_neg (by omega)]
      rcases hnum a b ha hb with ⟨e, e1, e2, e3⟩ | ⟨e1, e2⟩
      · refine Or.inl ⟨e, by simp only [psh]; omega, ?_, e3⟩
        simp only [psh, if_neg (show ¬ e = s.1 by omega)]
        exact e2
      · refine Or.inr ⟨fun e he2 => ?_, e2⟩
        have he3 : e < s.1 + 1 := he2
        simp only [psh]
        by_cases h4 : e = s.1
        · simp only [if_pos h4]; exact hh
        · simp only [if_neg h4]; exact e1 e (by omega)
theorem EdX.fr {c X X1 : SZ} {s : ER} (h : EdX c X s) {li la ll lb : List Nat} (hf : Fr li la ll lb X X1) (h9 : 9 ∉ li) (ha : ∀ k, (k = 11 ∨ k = 13 ∨ k = 14 ∨ k = 15) → k ∉ la) : EdX c X1 s := by
  obtain ⟨h1, h2, h3⟩ := h
  refine ⟨by rw [hf.1 9 h9]; exact h1, fun e he => ?_, fun a b hx hy => ?_⟩
  · rw [hf.2.1 13 _ (ha 13 (by omega)), hf.2.1 14 _ (ha 14 (by omega)), hf.2.1 15 _ (ha 15 (by omega))]; exact h2 e he
  · rw [hf.2.1 11 _ (ha 11 (by omega))]; exact h3 a b hx hy
theorem ShOK.fr {c X X1 : SZ} {f : Nat} (h : ShOK c X f) {li la ll lb : List Nat} (hf : Fr li la ll lb X X1) (ha : 12 ∉ la) : ShOK c X1 f := fun p q h1 h2 => by rw [hf.2.1 12 _ ha]; exact h p q h1 h2
theorem cn_le {c : SZ} {p q : Nat} : ∀ f, cn c p q f ≤ f
  | 0 => by simp [cn]
  | f + 1 => by
    have := cn_le (c := c) (p := p) (q := q) f
    rw [cn]; split <;> omega
theorem erow_p {c : SZ} (hg : Gd c) {P : SZ → Prop} {k88 : SZ → Int → Option SZ} {p : Nat} : ∀ (fu q : Nat) (X : SZ) (s : ER), Msh X c → ShOK c X (nf c) → EdX c X s → Ord c s p q → p < q → q ≤ np c → np c < q + fu → (∀ X1, Msh X1 c → ShOK c X1 (nf c) → Fr [9] [11, 13, 14, 15] [] [] X X1 → EdX c X1 (rowS c p q (np c - q) s) → Ok (k88 X1 ((p : Int) + 1)) P) → Ok (f_X1_rebuild_p101 k88 fu X p q) P := by
  have g0 := hg.1
  have n1 := np_i hg
  have n2 := np_16 hg
  have n3 := nf_24 hg
  intro fu
  induction fu with
  | zero => intro q X s hm hs he ho h0 h1 h2; exact absurd h2 (by omega)
  | succ fu ih =>
    intro q X s hm hs he ho h0 h1 h2 K
    obtain ⟨e0, e1, e2, e3, e4, e5, ex, ey, ez, ec, ew, ev, eb⟩ := id hm
    by_cases hq : q = np c
    · rw [show np c - q = 0 by omega, rowS] at K
      obtain ⟨X1, q1, q2⟩ := K X hm hs (Fr.rf _ _ _ _ X) he
      refine ⟨X1, ?_, q2⟩
      rw [f_X1_rebuild_p101]
      (repeat first | (with_reducible refine ev_let ?_) | (with_reducible refine ev_rng ?_ ?_ ?_; (first | omega | (simp (disch := omega) only [zi_ui, zi_ui', zl_ui, za_ui, zb_ui, zi_ul, zl_ul, zl_ul', za_ul, zb_ul, zi_ua, zl_ua, zb_ua, za_ua, za_ua', zi_ub, zl_ub, za_ub, zb_ub, zb_ub'] <;> omega)); (first | omega | (simp (disch := omega) only [zi_ui, zi_ui', zl_ui, za_ui, zb_ui, zi_ul, zl_ul, zl_ul', za_ul, zb_ul, zi_ua, zl_ua, zb_ua, za_ua, za_ua', zi_ub, zl_ub, za_ub, zb_ub, zb_ub'] <;> omega))) | (with_reducible refine ev_ins ?_ ?_ ?_; (first | omega | (simp (disch := omega) only [zi_ui, zi_ui', zl_ui, za_ui, zb_ui, zi_ul, zl_ul, zl_ul', za_ul, zb_ul, zi_ua, zl_ua, zb_ua, za_ua, za_ua', zi_ub, zl_ub, za_ub, zb_ub, zb_ub'] <;> omega)); (first | omega | (simp (disch := omega) only [zi_ui, zi_ui', zl_ui, za_ui, zb_ui, zi_ul, zl_ul, zl_ul', za_ul, zb_ul, zi_ua, zl_ua, zb_ua, za_ua, za_ua', zi_ub, zl_ub, za_ub, zb_ub, zb_ub'] <;> omega))) | (with_reducible refine ev_if1 ?_ ?_; (first | omega | (simp (disch := omega) only [zi_ui, zi_ui', zl_ui, za_ui, zb_ui, zi_ul, zl_ul, zl_ul', za_ul, zb_ul, zi_ua, zl_ua, zb_ua, za_ua, za_ua', zi_ub, zl_ub, za_ub, zb_ub, zb_ub'] <;> omega))) | (with_reducible refine ev_if0 ?_ ?_; (first | omega | (simp (disch := omega) only [zi_ui, zi_ui', zl_ui, za_ui, zb_ui, zi_ul, zl_ul, zl_ul', za_ul, zb_ul, zi_ua, zl_ua, zb_ua, za_ua, za_ua', zi_ub, zl_ub, za_ub, zb_ub, zb_ub'] <;> omega))) | (with_reducible refine ev_rnl ?_ ?_ ?_; (first | omega | (simp (disch := omega) only [zi_ui, zi_ui', zl_ui, za_ui, zb_ui, zi_ul, zl_ul, zl_ul', za_ul, zb_ul, zi_ua, zl_ua, zb_ua, za_ua, za_ua', zi_ub, zl_ub, za_ub, zb_ub, zb_ub'] <;> omega)); (first | omega | (simp (disch := omega) only [zi_ui, zi_ui', zl_ui, za_ui, zb_ui, zi_ul, zl_ul, zl_ul', za_ul, zb_ul, zi_ua, zl_ua, zb_ua, za_ua, za_ua', zi_ub, zl_ub, za_ub, zb_ub, zb_ub'] <;> omega))) | (with_reducible refine ev_ne ?_ ?_; (first | omega | (simp (disch := omega) only [zi_ui, zi_ui', zl_ui, za_ui, zb_ui, zi_ul, zl_ul, zl_ul', za_ul, zb_ul, zi_ua, zl_ua, zb_ua, za_ua, za_ua', zi_ub, zl_ub, za_ub, zb_ub, zb_ub'] <;> omega))) | (with_reducible refine ev_01 ?_ ?_; (first | omega | (simp (disch := omega) only [zi_ui, zi_ui', zl_ui, za_ui, zb_ui, zi_ul, zl_ul, zl_ul', za_ul, zb_ul, zi_ua, zl_ua, zb_ua, za_ua, za_ua', zi_ub, zl_ub, za_ub, zb_ub, zb_ub'] <;> omega))))
      exact q1
    · have hl80 := ord_80 hg ho
      have h9 := he.1
      have hsh := hs p q h0 (by omega)
      have hcl := cn_le (c := c) (p := p) (q := q) (nf c)
      have hcf := cn_CF c p q
      rw [show np c - q = (np c - (q + 1)) + 1 by omega, rowS] at K
      have i1 : ((p : Int) * 16 + q).toNat = 16 * p + q := by omega
      obtain ⟨r, w1, _, w2⟩ := wd_X hm hg (p := p) (q := q) (by omega) (by omega)
      by_cases hE : isE c p q
      · have ho2 := ord_psh ho h0 (by omega) hE
        have hl2 := ord_80 hg ho2
        have hl3 : s.1 + 1 ≤ 80 := hl2
        obtain ⟨X1, a1, a2, a3⟩ := append_e he hs h0 (show q < 16 by omega) (by omega)
        rw [if_pos hE] at K
        have hm1 := msh_fr hm a2 (by intro k _ _; simp; omega) (by intro k _ _; simp; omega)
        obtain ⟨X2, q1, q2⟩ := ih (q + 1) X1 _ hm1 (hs.fr a2 (by decide)) a3 ho2 (by omega) (by omega) (by omega) (fun X2 hm2 hs2 F2 => K X2 hm2 hs2 (a2.tr F2))
        refine ⟨X2, ?_, q2⟩
        rw [f_X1_rebuild_p101, i1, hsh]
        by_cases hz : 0 < cn c p q (nf c)
        · (repeat first | (with_reducible refine ev_let ?_) | (with_reducible refine ev_ob2 (a1) ?_) | (with_reducible refine ev_ob1 (a1) ?_) | (with_reducible refine ev_rng ?_ ?_ ?_; (first | omega | (simp (disch := omega) only [zi_ui, zi_ui', zl_ui, za_ui, zb_ui, zi_ul, zl_ul, zl_ul', za_ul, zb_ul, zi_ua, zl_ua, zb_ua, za_ua, za_ua', zi_ub, zl_ub, za_ub, zb_ub, zb_ub'] <;> omega)); (first | omega | (simp (disch := omega) only [zi_ui, zi_ui', zl_ui, za_ui, zb_ui, zi_ul, zl_ul, zl_ul', za_ul, zb_ul, zi_ua, zl_ua, zb_ua, za_ua, za_ua', zi_ub, zl_ub, za_ub, zb_ub, zb_ub'] <;> omega))) | (with_reducible refine ev_ins ?_ ?_ ?_; (first | omega | (simp (disch := omega) only [zi_ui, zi_ui', zl_ui, za_ui, zb_ui, zi_ul, zl_ul, zl_ul', za_ul, zb_ul, zi_ua, zl_ua, zb_ua, za_ua, za_ua', zi_ub, zl_ub, za_ub, zb_ub, zb_ub'] <;> omega)); (first | omega | (simp (disch := omega) only [zi_ui, zi_ui', zl_ui, za_ui, zb_ui, zi_ul, zl_ul, zl_ul', za_ul, zb_ul, zi_ua, zl_ua, zb_ua, za_ua, za_ua', zi_ub, zl_ub, za_ub, zb_ub, zb_ub'] <;> omega))) | (with_reducible refine ev_if1 ?_ ?_; (first | omega | (simp (disch := omega) only [zi_ui, zi_ui', zl_ui, za_ui, zb_ui, zi_ul, zl_ul, zl_ul', za_ul, zb_ul, zi_ua, zl_ua, zb_ua, za_ua, za_ua', zi_ub, zl_ub, za_ub, zb_ub, zb_ub'] <;> omega))) | (with_reducible refine ev_if0 ?_ ?_; (first | omega | (simp (disch := omega) only [zi_ui, zi_ui', zl_ui, za_ui, zb_ui, zi_ul, zl_ul, zl_ul', za_ul, zb_ul, zi_ua, zl_ua, zb_ua, za_ua, za_ua', zi_ub, zl_ub, za_ub, zb_ub, zb_ub'] <;> omega))) | (with_reducible refine ev_rnl ?_ ?_ ?_; (first | omega | (simp (disch := omega) only [zi_ui, zi_ui', zl_ui, za_ui, zb_ui, zi_ul, zl_ul, zl_ul', za_ul, zb_ul, zi_ua, zl_ua, zb_ua, za_ua, za_ua', zi_ub, zl_ub, za_ub, zb_ub, zb_ub'] <;> omega)); (first | omega | (simp (disch := omega) only [zi_ui, zi_ui', zl_ui, za_ui, zb_ui, zi_ul, zl_ul, zl_ul', za_ul, zb_ul, zi_ua, zl_ua, zb_ua, za_ua, za_ua', zi_ub, zl_ub, za_ub, zb_ub, zb_ub'] <;> omega))) | (with_reducible refine ev_ne ?_ ?_; (first | omega | (simp (disch := omega) only [zi_ui, zi_ui', zl_ui, za_ui, zb_ui, zi_ul, zl_ul, zl_ul', za_ul, zb_ul, zi_ua, zl_ua, zb_ua, za_ua, za_ua', zi_ub, zl_ub, za_ub, zb_ub, zb_ub'] <;> omega))) | (with_reducible refine ev_01 ?_ ?_; (first | omega | (simp (disch := omega) only [zi_ui, zi_ui', zl_ui, za_ui, zb_ui, zi_ul, zl_ul, zl_ul', za_ul, zb_ul, zi_ua, zl_ua, zb_ua, za_ua, za_ua', zi_ub, zl_ub, za_ub, zb_ub, zb_ub'] <;> omega))))
          exact q1
        · rcases w2 with ⟨w3, w4⟩ | ⟨w3, w4⟩
          · exact absurd (isE_iff.mp hE) (by rintro (h | h); · omega
                                             · exact w4 h)
          · rw [w3] at w1
            clear w4
            (repeat first | (with_reducible refine ev_let ?_) | (with_reducible refine ev_ob2 (w1) ?_) | (with_reducible refine ev_ob1 (w1) ?_) | (with_reducible refine ev_ob2 (a1) ?_) | (with_reducible refine ev_ob1 (a1) ?_) | (with_reducible refine ev_rng ?_ ?_ ?_; (first | omega | (simp (disch := omega) only [zi_ui, zi_ui', zl_ui, za_ui, zb_ui, zi_ul, zl_ul, zl_ul', za_ul, zb_ul, zi_ua, zl_ua, zb_ua, za_ua, za_ua', zi_ub, zl_ub, za_ub, zb_ub, zb_ub'] <;> omega)); (first | omega | (simp (disch := omega) only [zi_ui, zi_ui', zl_ui, za_ui, zb_ui, zi_ul, zl_ul, zl_ul', za_ul, zb_ul, zi_ua, zl_ua, zb_ua, za_ua, za_ua', zi_ub, zl_ub, za_ub, zb_ub, zb_ub'] <;> omega))) | (with_reducible refine ev_ins ?_ ?_ ?_; (first | omega | (simp (disch := omega) only [zi_ui, zi_ui', zl_ui, za_ui, zb_ui, zi_ul, zl_ul, zl_ul', za_ul, zb_ul, zi_ua, zl_ua, zb_ua, za_ua, za_ua', zi_ub, zl_ub, za_ub, zb_ub, zb_ub'] <;> omega)); (first | omega | (simp (disch := omega) only [zi_ui, zi_ui', zl_ui, za_ui, zb_ui, zi_ul, zl_ul, zl_ul', za_ul, zb_ul, zi_ua, zl_ua, zb_ua, za_ua, za_ua', zi_ub, zl_ub, za_ub, zb_ub, zb_ub'] <;> omega))) | (with_reducible refine ev_if1 ?_ ?_; (first | omega | (simp (disch := omega) only [zi_ui, zi_ui', zl_ui, za_ui, zb_ui, zi_ul, zl_ul, zl_ul', za_ul, zb_ul, zi_ua, zl_ua, zb_ua, za_ua, za_ua', zi_ub, zl_ub, za_ub, zb_ub, zb_ub'] <;> omega))) | (with_reducible refine ev_if0 ?_ ?_; (first | omega | (simp (disch := omega) only [zi_ui, zi_ui', zl_ui, za_ui, zb_ui, zi_ul, zl_ul, zl_ul', za_ul, zb_ul, zi_ua, zl_ua, zb_ua, za_ua, za_ua', zi_ub, zl_ub, za_ub, zb_ub, zb_ub'] <;> omega))) | (with_reducible refine ev_rnl ?_ ?_ ?_; (first | omega | (simp (disch := omega) only [zi_ui, zi_ui', zl_ui, za_ui, zb_ui, zi_ul, zl_ul, zl_ul', za_ul, zb_ul, zi_ua, zl_ua, zb_ua, za_ua, za_ua', zi_ub, zl_ub, za_ub, zb_ub, zb_ub'] <;> omega)); (first | omega | (simp (disch := omega) only [zi_ui, zi_ui', zl_ui, za_ui, zb_ui, zi_ul, zl_ul, zl_ul', za_ul, zb_ul, zi_ua, zl_ua, zb_ua, za_ua, za_ua', zi_ub, zl_ub, za_ub, zb_ub, zb_ub'] <;> omega))) | (with_reducible refine ev_ne ?_ ?_; (first | omega | (simp (disch := omega) only [zi_ui, zi_ui', zl_ui, za_ui, zb_ui, zi_ul, zl_ul, zl_ul', za_ul, zb_ul, zi_ua, zl_ua, zb_ua, za_ua, za_ua', zi_ub, zl_ub, za_ub, zb_ub, zb_ub'] <;> omega))) | (with_reducible refine ev_01 ?_ ?_; (first | omega | (simp (disch := omega) only [zi_ui, zi_ui', zl_ui, za_ui, zb_ui, zi_ul, zl_ul, zl_ul', za_ul, zb_ul, zi_ua, zl_ua, zb_ua, za_ua, za_ua', zi_ub, zl_ub, za_ub, zb_ub, zb_ub'] <;> omega))))
            exact q1
      · rw [if_neg hE] at K
        obtain ⟨X2, q1, q2⟩ := ih (q + 1) X s hm hs he (ord_up ho (Or.inr ⟨rfl, by omega⟩)) (by omega) (by omega) (by omega) K
        refine ⟨X2, ?_, q2⟩
        rw [f_X1_rebuild_p101, i1, hsh]
        have hz : cn c p q (nf c) = 0 := by
          by_cases hz : cn c p q (nf c) = 0
          · exact hz
          · exact absurd (isE_iff.mpr (Or.inl (by omega))) hE
        by_cases h80 : s.1 = 80
        · (repeat first | (with_reducible refine ev_let ?_) | (with_reducible refine ev_rng ?_ ?_ ?_; (first | omega | (simp (disch := omega) only [zi_ui, zi_ui', zl_ui, za_ui, zb_ui, zi_ul, zl_ul, zl_ul', za_ul, zb_ul, zi_ua, zl_ua, zb_ua, za_ua, za_ua', zi_ub, zl_ub, za_ub, zb_ub, zb_ub'] <;> omega)); (first | omega | (simp (disch := omega) only [zi_ui, zi_ui', zl_ui, za_ui, zb_ui, zi_ul, zl_ul, zl_ul', za_ul, zb_ul, zi_ua, zl_ua, zb_ua, za_ua, za_ua', zi_ub, zl_ub, za_ub, zb_ub, zb_ub'] <;> omega))) | (with_reducible refine ev_ins ?_ ?_ ?_; (first | omega | (simp (disch := omega) only [zi_ui, zi_ui', zl_ui, za_ui, zb_ui, zi_ul, zl_ul, zl_ul', za_ul, zb_ul, zi_ua, zl_ua, zb_ua, za_ua, za_ua', zi_ub, zl_ub, za_ub, zb_ub, zb_ub'] <;> omega)); (first | omega | (simp (disch := omega) only [zi_ui, zi_ui', zl_ui, za_ui, zb_ui, zi_ul, zl_ul, zl_ul', za_ul, zb_ul, zi_ua, zl_ua, zb_ua, za_ua, za_ua', zi_ub, zl_ub, za_ub, zb_ub, zb_ub'] <;> omega))) | (with_reducible refine ev_if1 ?_ ?_; (first | omega | (simp (disch := omega) only [zi_ui, zi_ui', zl_ui, za_ui, zb_ui, zi_ul, zl_ul, zl_ul', za_ul, zb_ul, zi_ua, zl_ua, zb_ua, za_ua, za_ua', zi_ub, zl_ub, za_ub, zb_ub, zb_ub'] <;> omega))) | (with_reducible refine ev_if0 ?_ ?_; (first | omega | (simp (disch := omega) only [zi_ui, zi_ui', zl_ui, za_ui, zb_ui, zi_ul, zl_ul, zl_ul', za_ul, zb_ul, zi_ua, zl_ua, zb_ua, za_ua, za_ua', zi_ub, zl_ub, za_ub, zb_ub, zb_ub'] <;> omega))) | (with_reducible refine ev_rnl ?_ ?_ ?_; (first | omega | (simp (disch := omega) only [zi_ui, zi_ui', zl_ui, za_ui, zb_ui, zi_ul, zl_ul, zl_ul', za_ul, zb_ul, zi_ua, zl_ua, zb_ua, za_ua, za_ua', zi_ub, zl_ub, za_ub, zb_ub, zb_ub'] <;> omega)); (first | omega | (simp (disch := omega) only [zi_ui, zi_ui', zl_ui, za_ui, zb_ui, zi_ul, zl_ul, zl_ul', za_ul, zb_ul, zi_ua, zl_ua, zb_ua, za_ua, za_ua', zi_ub, zl_ub, za_ub, zb_ub, zb_ub'] <;> omega))) | (with_reducible refine ev_ne ?_ ?_; (first | omega | (simp (disch := omega) only [zi_ui, zi_ui', zl_ui, za_ui, zb_ui, zi_ul, zl_ul, zl_ul', za_ul, zb_ul, zi_ua, zl_ua, zb_ua, za_ua, za_ua', zi_ub, zl_ub, za_ub, zb_ub, zb_ub'] <;> omega))) | (with_reducible refine ev_01 ?_ ?_; (first | omega | (simp (disch := omega) only [zi_ui, zi_ui', zl_ui, za_ui, zb_ui, zi_ul, zl_ul, zl_ul', za_ul, zb_ul, zi_ua, zl_ua, zb_ua, za_ua, za_ua', zi_ub, zl_ub, za_ub, zb_ub, zb_ub'] <;> omega))))
          exact q1
        rcases w2 with ⟨w3, w4⟩ | ⟨w3, w4⟩
        · rw [w3] at w1
          (repeat first | (with_reducible refine ev_let ?_) | (with_reducible refine ev_ob2 (w1) ?_) | (with_reducible refine ev_ob1 (w1) ?_) | (with_reducible refine ev_rng ?_ ?_ ?_; (first | omega | (simp (disch := omega) only [zi_ui, zi_ui', zl_ui, za_ui, zb_ui, zi_ul, zl_ul, zl_ul', za_ul, zb_ul, zi_ua, zl_ua, zb_ua, za_ua, za_ua', zi_ub, zl_ub, za_ub, zb_ub, zb_ub'] <;> omega)); (first | omega | (simp (disch := omega) only [zi_ui, zi_ui', zl_ui, za_ui, zb_ui, zi_ul, zl_ul, zl_ul', za_ul, zb_ul, zi_ua, zl_ua, zb_ua, za_ua, za_ua', zi_ub, zl_ub, za_ub, zb_ub, zb_ub'] <;> omega))) | (with_reducible refine ev_ins ?_ ?_ ?_; (first | omega | (simp (disch := omega) only [zi_ui, zi_ui', zl_ui, za_ui, zb_ui, zi_ul, zl_ul, zl_ul', za_ul, zb_ul, zi_ua, zl_ua, zb_ua, za_ua, za_ua', zi_ub, zl_ub, za_ub, zb_ub, zb_ub'] <;> omega)); (first | omega | (simp (disch := omega) only [zi_ui, zi_ui', zl_ui, za_ui, zb_ui, zi_ul, zl_ul, zl_ul', za_ul, zb_ul, zi_ua, zl_ua, zb_ua, za_ua, za_ua', zi_ub, zl_ub, za_ub, zb_ub, zb_ub'] <;> omega))) | (with_reducible refine ev_if1 ?_ ?_; (first | omega | (simp (disch := omega) only [zi_ui, zi_ui', zl_ui, za_ui, zb_ui, zi_ul, zl_ul, zl_ul', za_ul, zb_ul, zi_ua, zl_ua, zb_ua, za_ua, za_ua', zi_ub, zl_ub, za_ub, zb_ub, zb_ub'] <;> omega))) | (with_reducible refine ev_if0 ?_ ?_; (first | omega | (simp (disch := omega) only [zi_ui, zi_ui', zl_ui, za_ui, zb_ui, zi_ul, zl_ul, zl_ul', za_ul, zb_ul, zi_ua, zl_ua, zb_ua, za_ua, za_ua', zi_ub, zl_ub, za_ub, zb_ub, zb_ub'] <;> omega))) | (with_reducible refine ev_rnl ?_ ?_ ?_; (first | omega | (simp (disch := omega) only [zi_ui, zi_ui', zl_ui, za_ui, zb_ui, zi_ul, zl_ul, zl_ul', za_ul, zb_ul, zi_ua, zl_ua, zb_ua, za_ua, za_ua', zi_ub, zl_ub, za_ub, zb_ub, zb_ub'] <;> omega)); (first | omega | (simp (disch := omega) only [zi_ui, zi_ui', zl_ui, za_ui, zb_ui, zi_ul, zl_ul, zl_ul', za_ul, zb_ul, zi_ua, zl_ua, zb_ua, za_ua, za_ua', zi_ub, zl_ub, za_ub, zb_ub, zb_ub'] <;> omega))) | (with_reducible refine ev_ne ?_ ?_; (first | omega | (simp (disch := omega) only [zi_ui, zi_ui', zl_ui, za_ui, zb_ui, zi_ul, zl_ul, zl_ul', za_ul, zb_ul, zi_ua, zl_ua, zb_ua, za_ua, za_ua', zi_ub, zl_ub, za_ub, zb_ub, zb_ub'] <;> omega))) | (with_reducible refine ev_01 ?_ ?_; (first | omega | (simp (disch := omega) only [zi_ui, zi_ui', zl_ui, za_ui, zb_ui, zi_ul, zl_ul, zl_ul', za_ul, zb_ul, zi_ua, zl_ua, zb_ua, za_ua, za_ua', zi_ub, zl_ub, za_ub, zb_ub, zb_ub'] <;> omega))))
          exact q1
        · exact absurd (isE_iff.mpr (Or.inr w4)) hE
theorem eall_p {c : SZ} (hg : Gd c) {P : SZ → Prop} : ∀ (fu p : Nat) (X : SZ) (s : ER), Msh X c → ShOK c X (nf c) → EdX c X s → Ord c s p 0 → p ≤ np c → np c < p + fu → (∀ X1, Msh X1 c → Fr [9] [11, 13, 14, 15] [] [] X X1 → EdX c X1 (allS c p (np c - p) s) → Ok (f_X1_rebuild_p165 FU X1 0) P) → Ok (f_X1_rebuild_p88 fu X p) P := by
  have g0 := hg.1
  have n1 := np_i hg
  have n2 := np_16 hg
  intro fu
  induction fu with
  | zero => intro p X s hm hs he ho h1 h2; exact absurd h2 (by omega)
  | succ fu ih =>
    intro p X s hm hs he ho h1 h2 K
    obtain ⟨e0, e1, e2, e3, e4, e5, ex, ey, ez, ec, ew, ev, eb⟩ := id hm
    by_cases hp : p = np c
    · rw [show np c - p = 0 by omega, allS] at K
      obtain ⟨X1, q1, q2⟩ := K X hm (Fr.rf _ _ _ _ X) he
      refine ⟨X1, ?_, q2⟩
      rw [f_X1_rebuild_p88]
      (repeat first | (with_reducible refine ev_let ?_) | (with_reducible refine ev_rng ?_ ?_ ?_; (first | omega | (simp (disch := omega) only [zi_ui, zi_ui', zl_ui, za_ui, zb_ui, zi_ul, zl_ul, zl_ul', za_ul, zb_ul, zi_ua, zl_ua, zb_ua, za_ua, za_ua', zi_ub, zl_ub, za_ub, zb_ub, zb_ub'] <;> omega)); (first | omega | (simp (disch := omega) only [zi_ui, zi_ui', zl_ui, za_ui, zb_ui, zi_ul, zl_ul, zl_ul', za_ul, zb_ul, zi_ua, zl_ua, zb_ua, za_ua, za_ua', zi_ub, zl_ub, za_ub, zb_ub, zb_ub'] <;> omega))) | (with_reducible refine ev_ins ?_ ?_ ?_; (first | omega | (simp (disch := omega) only [zi_ui, zi_ui', zl_ui, za_ui, zb_ui, zi_ul, zl_ul, zl_ul', za_ul, zb_ul, zi_ua, zl_ua, zb_ua, za_ua, za_ua', zi_ub, zl_ub, za_ub, zb_ub, zb_ub'] <;> omega)); (first | omega | (simp (disch := omega) only [zi_ui, zi_ui', zl_ui, za_ui, zb_ui, zi_ul, zl_ul, zl_ul', za_ul, zb_ul, zi_ua, zl_ua, zb_ua, za_ua, za_ua', zi_ub, zl_ub, za_ub, zb_ub, zb_ub'] <;> omega))) | (with_reducible refine ev_if1 ?_ ?_; (first | omega | (simp (disch := omega) only [zi_ui, zi_ui', zl_ui, za_ui, zb_ui, zi_ul, zl_ul, zl_ul', za_ul, zb_ul, zi_ua, zl_ua, zb_ua, za_ua, za_ua', zi_ub, zl_ub, za_ub, zb_ub, zb_ub'] <;> omega))) | (with_reducible refine ev_if0 ?_ ?_; (first | omega | (simp (disch := omega) only [zi_ui, zi_ui', zl_ui, za_ui, zb_ui, zi_ul, zl_ul, zl_ul', za_ul, zb_ul, zi_ua, zl_ua, zb_ua, za_ua, za_ua', zi_ub, zl_ub, za_ub, zb_ub, zb_ub'] <;> omega))) | (with_reducible refine ev_rnl ?_ ?_ ?_; (first | omega | (simp (disch := omega) only [zi_ui, zi_ui', zl_ui, za_ui, zb_ui, zi_ul, zl_ul, zl_ul', za_ul, zb_ul, zi_ua, zl_ua, zb_ua, za_ua, za_ua', zi_ub, zl_ub, za_ub, zb_ub, zb_ub'] <;> omega)); (first | omega | (simp (disch := omega) only [zi_ui, zi_ui', zl_ui, za_ui, zb_ui, zi_ul, zl_ul, zl_ul', za_ul, zb_ul, zi_ua, zl_ua, zb_ua, za_ua, za_ua', zi_ub, zl_ub, za_ub, zb_ub, zb_ub'] <;> omega))) | (with_reducible refine ev_ne ?_ ?_; (first | omega | (simp (disch := omega) only [zi_ui, zi_ui', zl_ui, za_ui, zb_ui, zi_ul, zl_ul, zl_ul', za_ul, zb_ul, zi_ua, zl_ua, zb_ua, za_ua, za_ua', zi_ub, zl_ub, za_ub, zb_ub, zb_ub'] <;> omega))) | (with_reducible refine ev_01 ?_ ?_; (first | omega | (simp (disch := omega) only [zi_ui, zi_ui', zl_ui, za_ui, zb_ui, zi_ul, zl_ul, zl_ul', za_ul, zb_ul, zi_ua, zl_ua, zb_ua, za_ua, za_ua', zi_ub, zl_ub, za_ub, zb_ub, zb_ub'] <;> omega))))
      exact q1
    · rw [show np c - p = (np c - (p + 1)) + 1 by omega, allS] at K
      have ho1 : Ord c s p (p + 1) := ord_up ho (Or.inr ⟨rfl, by omega⟩)
      have key := erow_p hg (P := P) (k88 := f_X1_rebuild_p88 fu) (p := p) FU (p + 1) X s hm hs he ho1 (by omega) (by omega) (by rw [fu_eq]; omega) (fun X1 hm1 hs1 F1 he1 => by
        have ho2 := row_ord (c := c) (np c - (p + 1)) (p + 1) s (by omega) (by omega) ho1
        exact ih (p + 1) X1 _ hm1 hs1 he1 (ord_up ho2 (Or.inl (by omega))) (by omega) (by omega) (fun X2 hm2 F2 => K X2 hm2 (F1.tr F2)))
      obtain ⟨X1, q1, q2⟩ := key
      refine ⟨X1, ?_, q2⟩
      rw [f_X1_rebuild_p88]
      (repeat first | (with_reducible refine ev_let ?_) | (with_reducible refine ev_rng ?_ ?_ ?_; (first | omega | (simp (disch := omega) only [zi_ui, zi_ui', zl_ui, za_ui, zb_ui, zi_ul, zl_ul, zl_ul', za_ul, zb_ul, zi_ua, zl_ua, zb_ua, za_ua, za_ua', zi_ub, zl_ub, za_ub, zb_ub, zb_ub'] <;> omega)); (first | omega | (simp (disch := omega) only [zi_ui, zi_ui', zl_ui, za_ui, zb_ui, zi_ul, zl_ul, zl_ul', za_ul, zb_ul, zi_ua, zl_ua, zb_ua, za_ua, za_ua', zi_ub, zl_ub, za_ub, zb_ub, zb_ub'] <;> omega))) | (with_reducible refine ev_ins ?_ ?_ ?_; (first | omega | (simp (disch := omega) only [zi_ui, zi_ui', zl_ui, za_ui, zb_ui, zi_ul, zl_ul, zl_ul', za_ul, zb_ul, zi_ua, zl_ua, zb_ua, za_ua, za_ua', zi_ub, zl_ub, za_ub, zb_ub, zb_ub'] <;> omega)); (first | omega | (simp (disch := omega) only [zi_ui, zi_ui', zl_ui, za_ui, zb_ui, zi_ul, zl_ul, zl_ul', za_ul, zb_ul, zi_ua, zl_ua, zb_ua, za_ua, za_ua', zi_ub, zl_ub, za_ub, zb_ub, zb_ub'] <;> omega))) | (with_reducible refine ev_if1 ?_ ?_; (first | omega | (simp (disch := omega) only [zi_ui, zi_ui', zl_ui, za_ui, zb_ui, zi_ul, zl_ul, zl_ul', za_ul, zb_ul, zi_ua, zl_ua, zb_ua, za_ua, za_ua', zi_ub, zl_ub, za_ub, zb_ub, zb_ub'] <;> omega))) | (with_reducible refine ev_if0 ?_ ?_; (first | omega | (simp (disch := omega) only [zi_ui, zi_ui', zl_ui, za_ui, zb_ui, zi_ul, zl_ul, zl_ul', za_ul, zb_ul, zi_ua, zl_ua, zb_ua, za_ua, za_ua', zi_ub, zl_ub, za_ub, zb_ub, zb_ub'] <;> omega))) | (with_reducible refine ev_rnl ?_ ?_ ?_; (first | omega | (simp (disch := omega) only [zi_ui, zi_ui', zl_ui, za_ui, zb_ui, zi_ul, zl_ul, zl_ul', za_ul, zb_ul, zi_ua, zl_ua, zb_ua, za_ua, za_ua', zi_ub, zl_ub, za_ub, zb_ub, zb_ub'] <;> omega)); (first | omega | (simp (disch := omega) only [zi_ui, zi_ui', zl_ui, za_ui, zb_ui, zi_ul, zl_ul, zl_ul', za_ul, zb_ul, zi_ua, zl_ua, zb_ua, za_ua, za_ua', zi_ub, zl_ub, za_ub, zb_ub, zb_ub'] <;> omega))) | (with_reducible refine ev_ne ?_ ?_; (first | omega | (simp (disch := omega) only [zi_ui, zi_ui', zl_ui, za_ui, zb_ui, zi_ul, zl_ul, zl_ul', za_ul, zb_ul, zi_ua, zl_ua, zb_ua, za_ua, za_ua', zi_ub, zl_ub, za_ub, zb_ub, zb_ub'] <;> omega))) | (with_reducible refine ev_01 ?_ ?_; (first | omega | (simp (disch := omega) only [zi_ui, zi_ui', zl_ui, za_ui, zb_ui, zi_ul, zl_ul, zl_ul', za_ul, zb_ul, zi_ua, zl_ua, zb_ua, za_ua, za_ua', zi_ub, zl_ub, za_ub, zb_ub, zb_ub'] <;> omega))))
      exact q1
