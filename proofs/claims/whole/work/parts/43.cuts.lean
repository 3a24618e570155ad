/-! CUTS -/
abbrev flo (x y : Int × Int) : Prop := x.1 * y.2 < y.1 * x.2
abbrev CR : Type := Nat × (Nat → Int × Int)
def pl (g : Nat → Int × Int) (x : Int × Int) : Nat → Nat → Nat
  | k, 0 => k
  | k, m + 1 => if flo (g k) x then pl g x (k + 1) m else k
def insr (s : CR) (x : Int × Int) : CR := if pl s.2 x 0 s.1 < s.1 ∧ s.2 (pl s.2 x 0 s.1) = x then s else (s.1 + 1, fun i => if i < pl s.2 x 0 s.1 then s.2 i else if i = pl s.2 x 0 s.1 then x else s.2 (i - 1))
theorem pl_le (g : Nat → Int × Int) (x : Int × Int) : ∀ m k, k ≤ pl g x k m ∧ pl g x k m ≤ k + m
  | 0, k => by rw [pl]; omega
  | m + 1, k => by
    rw [pl]; split
    · have := pl_le g x m (k + 1); omega
    · omega
theorem pl_lo (g : Nat → Int × Int) (x : Int × Int) : ∀ m k i, k ≤ i → i < pl g x k m → flo (g i) x
  | 0, k, i, h1, h2 => by rw [pl] at h2; omega
  | m + 1, k, i, h1, h2 => by
    rw [pl] at h2; split at h2
    · rename_i hh
      by_cases hi : i = k
      · rw [hi]; exact hh
      · exact pl_lo g x m (k + 1) i (by omega) h2
    · omega
theorem pl_hi (g : Nat → Int × Int) (x : Int × Int) : ∀ m k, pl g x k m < k + m → ¬ flo (g (pl g x k m)) x
  | 0, k, h => by rw [pl] at h; omega
  | m + 1, k, h => by
    rw [pl] at h ⊢; split
    · rename_i hh
      rw [if_pos hh] at h
      exact pl_hi g x m (k + 1) (by omega)
    · assumption
def LowS (s : CR) : Prop := ∀ k, k < s.1 → low (s.2 k).1 (s.2 k).2
def SrtS (s : CR) : Prop := ∀ i j, i < j → j < s.1 → flo (s.2 i) (s.2 j)
def Has (s : CR) (x : Int × Int) : Prop := ∃ i, i < s.1 ∧ s.2 i = x
theorem flo_tr {x y z : Int × Int} (hx : 0 < x.2) (hy : 0 < y.2) (hz : 0 < z.2) (h1 : flo x y) (h2 : flo y z) : flo x z := by
  have a1 := Int.mul_lt_mul_of_pos_right h1 hz
  have a2 := Int.mul_lt_mul_of_pos_right h2 hx
  have e1 : x.1 * y.2 * z.2 = x.1 * z.2 * y.2 := by grind
  have e2 : y.1 * x.2 * z.2 = y.1 * z.2 * x.2 := by grind
  have e3 : z.1 * y.2 * x.2 = z.1 * x.2 * y.2 := by grind
  have a3 : x.1 * z.2 * y.2 < z.1 * x.2 * y.2 := by rw [← e1, ← e3]; rw [e2] at a1; omega
  exact Int.lt_of_mul_lt_mul_right a3 (by omega)
theorem flo_ir {x : Int × Int} : ¬ flo x x := by unfold flo; omega
theorem low_tri {x y : Int × Int} (hx : low x.1 x.2) (hy : low y.1 y.2) : flo x y ∨ x = y ∨ flo y x := by
  unfold flo
  rcases Int.lt_trichotomy (x.1 * y.2) (y.1 * x.2) with h | h | h
  · exact Or.inl h
  · have := low_eq hx hy h
    exact Or.inr (Or.inl (Prod.ext this.1 this.2))
  · exact Or.inr (Or.inr h)
theorem insr_low {s : CR} {x : Int × Int} (h : LowS s) (hx : low x.1 x.2) : LowS (insr s x) := by
  intro k hk
  have hp := pl_le s.2 x s.1 0
  unfold insr at hk ⊢
  split
  · rename_i hh; rw [if_pos hh] at hk; exact h k hk
  · rename_i hh
    rw [if_neg hh] at hk
    simp only [] at hk ⊢
    split
    · exact h k (by omega)
    · split
      · exact hx
      · exact h (k - 1) (by omega)
theorem insr_srt {s : CR} {x : Int × Int} (h : LowS s) (hs : SrtS s) (hx : low x.1 x.2) : SrtS (insr s x) := by
  intro i j hij hj
  have hp := pl_le s.2 x s.1 0
  have hlo := pl_lo s.2 x s.1 0
  have hhi := pl_hi s.2 x s.1 0
  unfold insr at hj ⊢
  by_cases hh : pl s.2 x 0 s.1 < s.1 ∧ s.2 (pl s.2 x 0 s.1) = x
  · rw [if_pos hh] at hj ⊢; exact hs i j hij hj
  · rw [if_neg hh] at hj ⊢
    simp only [] at hj ⊢
    generalize pl s.2 x 0 s.1 = k at *
    have up : ∀ m, k ≤ m → m < s.1 → flo x (s.2 m) := by
      intro m h1 h2
      have b : flo x (s.2 k) := by
        rcases low_tri hx (h k (by omega)) with t | t | t
        · exact t
        · exact absurd ⟨by omega, t.symm⟩ hh
        · exact absurd t (hhi (by omega))
      by_cases hm : m = k
      · rw [hm]; exact b
      · exact flo_tr hx.1.2.2.1 (h k (by omega)).1.2.2.1 (h m h2).1.2.2.1 b (hs k m (by omega) h2)
    by_cases c1 : i < k
    · rw [if_pos c1]
      by_cases c2 : j < k
      · rw [if_pos c2]; exact hs i j hij (by omega)
      · rw [if_neg c2]
        by_cases c3 : j = k
        · rw [if_pos c3]; exact hlo i (by omega) c1
        · rw [if_neg c3]; exact hs i (j - 1) (by omega) (by omega)
    · rw [if_neg c1, if_neg (show ¬ j < k by omega), if_neg (show ¬ j = k by omega)]
      by_cases c3 : i = k
      · rw [if_pos c3]; exact up (j - 1) (by omega) (by omega)
      · rw [if_neg c3]; exact hs (i - 1) (j - 1) (by omega) (by omega)
theorem insr_has (s : CR) (x : Int × Int) : Has (insr s x) x := by
  have hp := pl_le s.2 x s.1 0
  unfold insr
  split
  · rename_i hh; exact ⟨_, hh.1, hh.2⟩
  · exact ⟨pl s.2 x 0 s.1, by simp only []; omega, by simp only [if_neg (Nat.lt_irrefl _), if_pos]⟩
theorem insr_keep {s : CR} {x y : Int × Int} (h : Has s y) : Has (insr s x) y := by
  have hp := pl_le s.2 x s.1 0
  obtain ⟨i, h1, h2⟩ := h
  unfold insr
  split
  · exact ⟨i, h1, h2⟩
  · generalize pl s.2 x 0 s.1 = k at *
    by_cases c1 : i < k
    · exact ⟨i, by simp only []; omega, by simp only [if_pos c1]; exact h2⟩
    · exact ⟨i + 1, by simp only []; omega, by simp only [if_neg (show ¬ i + 1 < k by omega), if_neg (show ¬ i + 1 = k by omega)]; exact h2⟩
theorem insr_src {s : CR} {x : Int × Int} {P : Int × Int → Prop} (h : ∀ i, i < s.1 → P (s.2 i)) (hx : P x) : ∀ i, i < (insr s x).1 → P ((insr s x).2 i) := by
  intro i hi
  have hp := pl_le s.2 x s.1 0
  unfold insr at hi ⊢
  split
  · rename_i hh; rw [if_pos hh] at hi; exact h i hi
  · rename_i hh
    rw [if_neg hh] at hi
    simp only [] at hi ⊢
    split
    · exact h i (by omega)
    · split
      · exact hx
      · exact h (i - 1) (by omega)
theorem insr_ln (s : CR) (x : Int × Int) : s.1 ≤ (insr s x).1 ∧ (insr s x).1 ≤ s.1 + 1 := by
  unfold insr; split
  · omega
  · simp only []; omega
noncomputable def Sxb (c : SZ) (p q f : Nat) : Bool := @decide (Sx c p q f) (Classical.propDecidable _)
theorem Sxb_iff {c : SZ} {p q f : Nat} : Sxb c p q f = true ↔ Sx c p q f := by unfold Sxb; exact @decide_eq_true_iff _ (Classical.propDecidable _)
def cut0 : CR := insr (insr (0, fun _ => (0, 0)) (0, 1)) (1, 1)
theorem cut0_e : cut0.1 = 2 ∧ cut0.2 0 = (0, 1) ∧ cut0.2 1 = (1, 1) := ⟨by decide, by decide, by decide⟩
noncomputable def CutS (c : SZ) (p q : Nat) : Nat → CR
  | 0 => cut0
  | f + 1 => if Sxb c p q f then insr (insr (CutS c p q f) (Bu c p q f, Bd c p q f)) (Eu c p q f, Ed c p q f) else CutS c p q f
noncomputable def CS (c : SZ) (p q : Nat) : CR := CutS c p q (nf c)
theorem cuts_ln (c : SZ) (p q : Nat) : ∀ f, 2 ≤ (CutS c p q f).1 ∧ (CutS c p q f).1 ≤ 2 + 2 * f
  | 0 => by rw [CutS, cut0_e.1]; omega
  | f + 1 => by
    have := cuts_ln c p q f
    rw [CutS]; split
    · have a := insr_ln (CutS c p q f) (Bu c p q f, Bd c p q f)
      have b := insr_ln (insr (CutS c p q f) (Bu c p q f, Bd c p q f)) (Eu c p q f, Ed c p q f)
      omega
    · omega
theorem cut0_low : LowS cut0 := by
  intro k hk
  rw [cut0_e.1] at hk
  have : k = 0 ∨ k = 1 := by omega
  rcases this with rfl | rfl
  · rw [cut0_e.2.1]; exact low_01.1
  · rw [cut0_e.2.2]; exact low_01.2
theorem cuts_low {c : SZ} (hg : Gd c) (p q : Nat) : ∀ f, LowS (CutS c p q f)
  | 0 => cut0_low
  | f + 1 => by
    rw [CutS]; split
    · exact insr_low (insr_low (cuts_low hg p q f) (B_low hg p q f)) (E_low hg p q f)
    · exact cuts_low hg p q f
theorem cuts_srt {c : SZ} (hg : Gd c) (p q : Nat) : ∀ f, SrtS (CutS c p q f)
  | 0 => by
    intro i j hij hj
    rw [CutS] at hj ⊢
    rw [cut0_e.1] at hj
    rw [show i = 0 by omega, show j = 1 by omega, cut0_e.2.1, cut0_e.2.2]
    decide
  | f + 1 => by
    rw [CutS]; split
    · exact insr_srt (insr_low (cuts_low hg p q f) (B_low hg p q f)) (insr_srt (cuts_low hg p q f) (cuts_srt hg p q f) (B_low hg p q f)) (E_low hg p q f)
    · exact cuts_srt hg p q f
theorem cuts_has {c : SZ} (p q : Nat) : ∀ f f2, f2 < f → Sx c p q f2 → Has (CutS c p q f) (Bu c p q f2, Bd c p q f2) ∧ Has (CutS c p q f) (Eu c p q f2, Ed c p q f2)
  | 0, f2, h, _ => absurd h (by omega)
  | f + 1, f2, h, hs => by
    rw [CutS]
    by_cases hf : f2 = f
    · subst hf
      rw [if_pos (Sxb_iff.mpr hs)]
      exact ⟨insr_keep (insr_has _ _), insr_has _ _⟩
    · have := cuts_has p q f f2 (by omega) hs
      split
      · exact ⟨insr_keep (insr_keep this.1), insr_keep (insr_keep this.2)⟩
      · exact this
theorem cuts_src {c : SZ} (p q : Nat) : ∀ f i, i < (CutS c p q f).1 → (CutS c p q f).2 i = (0, 1) ∨ (CutS c p q f).2 i = (1, 1) ∨ ∃ f2, f2 < f ∧ Sx c p q f2 ∧ ((CutS c p q f).2 i = (Bu c p q f2, Bd c p q f2) ∨ (CutS c p q f).2 i = (Eu c p q f2, Ed c p q f2))
  | 0, i, h => by
    rw [CutS] at h ⊢
    rw [cut0_e.1] at h
    have : i = 0 ∨ i = 1 := by omega
    rcases this with rfl | rfl
    · exact Or.inl cut0_e.2.1
    · exact Or.inr (Or.inl cut0_e.2.2)
  | f + 1, i, h => by
    have ih := cuts_src (c := c) p q f
    rw [CutS] at h ⊢
    split
    · rename_i hh
      rw [if_pos hh] at h
      have up : ∀ i, i < (CutS c p q f).1 → (CutS c p q f).2 i = (0, 1) ∨ (CutS c p q f).2 i = (1, 1) ∨ ∃ f2, f2 < f + 1 ∧ Sx c p q f2 ∧ ((CutS c p q f).2 i = (Bu c p q f2, Bd c p q f2) ∨ (CutS c p q f).2 i = (Eu c p q f2, Ed c p q f2)) := by
        intro i hi
        rcases ih i hi with h1 | h1 | ⟨f2, h1, h2⟩
        · exact Or.inl h1
        · exact Or.inr (Or.inl h1)
        · exact Or.inr (Or.inr ⟨f2, by omega, h2⟩)
      exact insr_src (P := fun y => y = (0, 1) ∨ y = (1, 1) ∨ ∃ f2, f2 < f + 1 ∧ Sx c p q f2 ∧ (y = (Bu c p q f2, Bd c p q f2) ∨ y = (Eu c p q f2, Ed c p q f2))) (insr_src (P := fun y => y = (0, 1) ∨ y = (1, 1) ∨ ∃ f2, f2 < f + 1 ∧ Sx c p q f2 ∧ (y = (Bu c p q f2, Bd c p q f2) ∨ y = (Eu c p q f2, Ed c p q f2))) up (Or.inr (Or.inr ⟨f, by omega, Sxb_iff.mp hh, Or.inl rfl⟩))) (Or.inr (Or.inr ⟨f, by omega, Sxb_iff.mp hh, Or.inr rfl⟩)) i h
    · rename_i hh
      rw [if_neg hh] at h
      rcases ih i h with h1 | h1 | ⟨f2, h1, h2⟩
      · exact Or.inl h1
      · exact Or.inr (Or.inl h1)
      · exact Or.inr (Or.inr ⟨f2, by omega, h2⟩)
theorem pk_bd {u d : Int} (h : fr u d) : 0 ≤ pk u d ∧ pk u d < 900000000000000 := by
  obtain ⟨a1, a2, a3, a4⟩ := h
  unfold pk; omega
/-! the class's row of cuts -/
def RepX (X : SZ) (s : CR) : Prop := zi X 12 = s.1 ∧ ∀ k, k < s.1 → zb X 2 k = pk (s.2 k).1 (s.2 k).2
theorem shX_p {x : Int} {k : Nat} : ∀ (d fu : Nat) (X : SZ), d < fu → k + d < 50 → Ok (f_X0_insert_p64 fu X x k ((k + d : Nat) : Int)) (fun X1 => Fr [12] [] [] [2] X X1 ∧ zi X1 12 = zi X 12 + 1 ∧ ∀ i, zb X1 2 i = if i < k then zb X 2 i else if i = k then x else if i ≤ k + d then zb X 2 (i - 1) else zb X 2 i) := by
  intro d
  induction d with
  | zero =>
    intro fu X h1 h2
    obtain ⟨f2, rfl⟩ : ∃ f2, fu = f2 + 1 := ⟨fu - 1, by omega⟩
    have F : Fr [12] [] [] [2] X (ui (ub X 2 k x) 12 (zi X 12 + 1)) := ((Fr.rf _ _ _ _ X).ub (by decide) _ _).ui (by decide) _
    refine ⟨_, ?_, F, ?_, ?_⟩
    · rw [f_X0_insert_p64]
      (repeat first | (with_reducible refine ev_let ?_) | (with_reducible refine ev_rng ?_ ?_ ?_; (first | omega | (simp (disch := omega) only [zi_ui, zi_ui', zl_ui, za_ui, zb_ui, zi_ul, zl_ul, zl_ul', za_ul, zb_ul, zi_ua, zl_ua, zb_ua, za_ua, za_ua', zi_ub, zl_ub, za_ub, zb_ub, zb_ub'] <;> omega)); (first | omega | (simp (disch := omega) only [zi_ui, zi_ui', zl_ui, za_ui, zb_ui, zi_ul, zl_ul, zl_ul', za_ul, zb_ul, zi_ua, zl_ua, zb_ua, za_ua, za_ua', zi_ub, zl_ub, za_ub, zb_ub, zb_ub'] <;> omega))) | (with_reducible refine ev_ins ?_ ?_ ?_; (first | omega | (simp (disch := omega) only [zi_ui, zi_ui', zl_ui, za_ui, zb_ui, zi_ul, zl_ul, zl_ul', za_ul, zb_ul, zi_ua, zl_ua, zb_ua, za_ua, za_ua', zi_ub, zl_ub, za_ub, zb_ub, zb_ub'] <;> omega)); (first | omega | (simp (disch := omega) only [zi_ui, zi_ui', zl_ui, za_ui, zb_ui, zi_ul, zl_ul, zl_ul', za_ul, zb_ul, zi_ua, zl_ua, zb_ua, za_ua, za_ua', zi_ub, zl_ub, za_ub, zb_ub, zb_ub'] <;> omega))) | (with_reducible refine ev_if1 ?_ ?_; (first | omega | (simp (disch := omega) only [zi_ui, zi_ui', zl_ui, za_ui, zb_ui, zi_ul, zl_ul, zl_ul', za_ul, zb_ul, zi_ua, zl_ua, zb_ua, za_ua, za_ua', zi_ub, zl_ub, za_ub, zb_ub, zb_ub'] <;> omega))) | (with_reducible refine ev_if0 ?_ ?_; (first | omega | (simp (disch := omega) only [zi_ui, zi_ui', zl_ui, za_ui, zb_ui, zi_ul, zl_ul, zl_ul', za_ul, zb_ul, zi_ua, zl_ua, zb_ua, za_ua, za_ua', zi_ub, zl_ub, za_ub, zb_ub, zb_ub'] <;> omega))) | (with_reducible refine ev_rnl ?_ ?_ ?_; (first | omega | (simp (disch := omega) only [zi_ui, zi_ui', zl_ui, za_ui, zb_ui, zi_ul, zl_ul, zl_ul', za_ul, zb_ul, zi_ua, zl_ua, zb_ua, za_ua, za_ua', zi_ub, zl_ub, za_ub, zb_ub, zb_ub'] <;> omega)); (first | omega | (simp (disch := omega) only [zi_ui, zi_ui', zl_ui, za_ui, zb_ui, zi_ul, zl_ul, zl_ul', za_ul, zb_ul, zi_ua, zl_ua, zb_ua, za_ua, za_ua', zi_ub, zl_ub, za_ub, zb_ub, zb_ub'] <;> omega))) | (with_reducible refine ev_ne ?_ ?_; (first | omega | (simp (disch := omega) only [zi_ui, zi_ui', zl_ui, za_ui, zb_ui, zi_ul, zl_ul, zl_ul', za_ul, zb_ul, zi_ua, zl_ua, zb_ua, za_ua, za_ua', zi_ub, zl_ub, za_ub, zb_ub, zb_ub'] <;> omega))) | (with_reducible refine ev_01 ?_ ?_; (first | omega | (simp (disch := omega) only [zi_ui, zi_ui', zl_ui, za_ui, zb_ui, zi_ul, zl_ul, zl_ul', za_ul, zb_ul, zi_ua, zl_ua, zb_ua, za_ua, za_ua', zi_ub, zl_ub, za_ub, zb_ub, zb_ub'] <;> omega))))
      rfl
    · rw [zi_ui]
    · intro i
      rw [zb_ui, zb_ubi]
      by_cases c1 : i = k
      · rw [if_pos c1, if_neg (by omega), if_pos c1]
      · rw [if_neg c1]
        by_cases c2 : i < k
        · rw [if_pos c2]
        · rw [if_neg c2, if_neg c1, if_neg (by omega)]
  | succ d ih =>
    intro fu X h1 h2
    obtain ⟨f2, rfl⟩ : ∃ f2, fu = f2 + 1 := ⟨fu - 1, by omega⟩
    obtain ⟨X1, q1, q2, q3, q4⟩ := ih f2 (ub X 2 (k + (d + 1)) (zb X 2 (k + d))) (by omega) (by omega)
    refine ⟨X1, ?_, ((Fr.rf _ _ _ _ X).ub (by decide) _ _).tr q2, ?_, ?_⟩
    · rw [f_X0_insert_p64]
      (repeat first | (with_reducible refine ev_let ?_) | (with_reducible refine ev_rng ?_ ?_ ?_; (first | omega | (simp (disch := omega) only [zi_ui, zi_ui', zl_ui, za_ui, zb_ui, zi_ul, zl_ul, zl_ul', za_ul, zb_ul, zi_ua, zl_ua, zb_ua, za_ua, za_ua', zi_ub, zl_ub, za_ub, zb_ub, zb_ub'] <;> omega)); (first | omega | (simp (disch := omega) only [zi_ui, zi_ui', zl_ui, za_ui, zb_ui, zi_ul, zl_ul, zl_ul', za_ul, zb_ul, zi_ua, zl_ua, zb_ua, za_ua, za_ua', zi_ub, zl_ub, za_ub, zb_ub, zb_ub'] <;> omega))) | (with_reducible refine ev_ins ?_ ?_ ?_; (first | omega | (simp (disch := omega) only [zi_ui, zi_ui', zl_ui, za_ui, zb_ui, zi_ul, zl_ul, zl_ul', za_ul, zb_ul, zi_ua, zl_ua, zb_ua, za_ua, za_ua', zi_ub, zl_ub, za_ub, zb_ub, zb_ub'] <;> omega)); (first | omega | (simp (disch := omega) only [zi_ui, zi_ui', zl_ui, za_ui, zb_ui, zi_ul, zl_ul, zl_ul', za_ul, zb_ul, zi_ua, zl_ua, zb_ua, za_ua, za_ua', zi_ub, zl_ub, za_ub, zb_ub, zb_ub'] <;> omega))) | (with_reducible refine ev_if1 ?_ ?_; (first | omega | (simp (disch := omega) only [zi_ui, zi_ui', zl_ui, za_ui, zb_ui, zi_ul, zl_ul, zl_ul', za_ul, zb_ul, zi_ua, zl_ua, zb_ua, za_ua, za_ua', zi_ub, zl_ub, za_ub, zb_ub, zb_ub'] <;> omega))) | (with_reducible refine ev_if0 ?_ ?_; (first | omega | (simp (disch := omega) only [zi_ui, zi_ui', zl_ui, za_ui, zb_ui, zi_ul, zl_ul, zl_ul', za_ul, zb_ul, zi_ua, zl_ua, zb_ua, za_ua, za_ua', zi_ub, zl_ub, za_ub, zb_ub, zb_ub'] <;> omega))) | (with_reducible refine ev_rnl ?_ ?_ ?_; (first | omega | (simp (disch := omega) only [zi_ui, zi_ui', zl_ui, za_ui, zb_ui, zi_ul, zl_ul, zl_ul', za_ul, zb_ul, zi_ua, zl_ua, zb_ua, za_ua, za_ua', zi_ub, zl_ub, za_ub, zb_ub, zb_ub'] <;> omega)); (first | omega | (simp (disch := omega) only [zi_ui, zi_ui', zl_ui, za_ui, zb_ui, zi_ul, zl_ul, zl_ul', za_ul, zb_ul, zi_ua, zl_ua, zb_ua, za_ua, za_ua', zi_ub, zl_ub, za_ub, zb_ub, zb_ub'] <;> omega))) | (with_reducible refine ev_ne ?_ ?_; (first | omega | (simp (disch := omega) only [zi_ui, zi_ui', zl_ui, za_ui, zb_ui, zi_ul, zl_ul, zl_ul', za_ul, zb_ul, zi_ua, zl_ua, zb_ua, za_ua, za_ua', zi_ub, zl_ub, za_ub, zb_ub, zb_ub'] <;> omega))) | (with_reducible refine ev_01 ?_ ?_; (first | omega | (simp (disch := omega) only [zi_ui, zi_ui', zl_ui, za_ui, zb_ui, zi_ul, zl_ul, zl_ul', za_ul, zb_ul, zi_ua, zl_ua, zb_ua, za_ua, za_ua', zi_ub, zl_ub, za_ub, zb_ub, zb_ub'] <;> omega))))
      rw [show (((k + (d + 1) : Nat) : Int) - 1).toNat = k + d by omega, show ((k + (d + 1) : Nat) : Int) + -1 = ((k + d : Nat) : Int) by omega]
      exact q1
    · rw [q3, zi_ub]
    · intro i
      rw [q4, zb_ubi, zb_ubi]
      by_cases c1 : i < k
      · rw [if_pos c1, if_pos c1, if_neg (by omega)]
      · rw [if_neg c1, if_neg c1]
        by_cases c2 : i = k
        · rw [if_pos c2, if_pos c2]
        · rw [if_neg c2, if_neg c2]
          by_cases c3 : i ≤ k + d
          · rw [if_pos c3, if_neg (show ¬ i - 1 = k + (d + 1) by omega), if_pos (show i ≤ k + (d + 1) by omega)]
          · rw [if_neg c3]
            by_cases c4 : i = k + (d + 1)
            · rw [if_pos c4, if_pos (by omega), c4]; rfl
            · rw [if_neg c4, if_neg (by omega)]
theorem insX_p {X : SZ} {s : CR} (hr : RepX X s) (hl : LowS s) {x : Int × Int} (hx : low x.1 x.2) (hn : s.1 < 50) : ∀ (m fu k : Nat), k + m = s.1 → m < fu → f_X0_insert_p2 fu X (pk x.1 x.2) k = f_X0_insert_p29 X (pk x.1 x.2) (pl s.2 x k m) := by
  have h12 := hr.1
  intro m
  induction m with
  | zero =>
    intro fu k h1 h2
    obtain ⟨f2, rfl⟩ : ∃ f2, fu = f2 + 1 := ⟨fu - 1, by omega⟩
    rw [f_X0_insert_p2, pl]
    (repeat first | (with_reducible refine ev_let ?_) | (with_reducible refine ev_rng ?_ ?_ ?_; (first | omega | (simp (disch := omega) only [zi_ui, zi_ui', zl_ui, za_ui, zb_ui, zi_ul, zl_ul, zl_ul', za_ul, zb_ul, zi_ua, zl_ua, zb_ua, za_ua, za_ua', zi_ub, zl_ub, za_ub, zb_ub, zb_ub'] <;> omega)); (first | omega | (simp (disch := omega) only [zi_ui, zi_ui', zl_ui, za_ui, zb_ui, zi_ul, zl_ul, zl_ul', za_ul, zb_ul, zi_ua, zl_ua, zb_ua, za_ua, za_ua', zi_ub, zl_ub, za_ub, zb_ub, zb_ub'] <;> omega))) | (with_reducible refine ev_ins ?_ ?_ ?_; (first | omega | (simp (disch := omega) only [zi_ui, zi_ui', zl_ui, za_ui, zb_ui, zi_ul, zl_ul, zl_ul', za_ul, zb_ul, zi_ua, zl_ua, zb_ua, za_ua, za_ua', zi_ub, zl_ub, za_ub, zb_ub, zb_ub'] <;> omega)); (first | omega | (simp (disch := omega) only [zi_ui, zi_ui', zl_ui, za_ui, zb_ui, zi_ul, zl_ul, zl_ul', za_ul, zb_ul, zi_ua, zl_ua, zb_ua, za_ua, za_ua', zi_ub, zl_ub, za_ub, zb_ub, zb_ub'] <;> omega))) | (with_reducible refine ev_if1 ?_ ?_; (first | omega | (simp (disch := omega) only [zi_ui, zi_ui', zl_ui, za_ui, zb_ui, zi_ul, zl_ul, zl_ul', za_ul, zb_ul, zi_ua, zl_ua, zb_ua, za_ua, za_ua', zi_ub, zl_ub, za_ub, zb_ub, zb_ub'] <;> omega))) | (with_reducible refine ev_if0 ?_ ?_; (first | omega | (simp (disch := omega) only [zi_ui, zi_ui', zl_ui, za_ui, zb_ui, zi_ul, zl_ul, zl_ul', za_ul, zb_ul, zi_ua, zl_ua, zb_ua, za_ua, za_ua', zi_ub, zl_ub, za_ub, zb_ub, zb_ub'] <;> omega))) | (with_reducible refine ev_rnl ?_ ?_ ?_; (first | omega | (simp (disch := omega) only [zi_ui, zi_ui', zl_ui, za_ui, zb_ui, zi_ul, zl_ul, zl_ul', za_ul, zb_ul, zi_ua, zl_ua, zb_ua, za_ua, za_ua', zi_ub, zl_ub, za_ub, zb_ub, zb_ub'] <;> omega)); (first | omega | (simp (disch := omega) only [zi_ui, zi_ui', zl_ui, za_ui, zb_ui, zi_ul, zl_ul, zl_ul', za_ul, zb_ul, zi_ua, zl_ua, zb_ua, za_ua, za_ua', zi_ub, zl_ub, za_ub, zb_ub, zb_ub'] <;> omega))) | (with_reducible refine ev_ne ?_ ?_; (first | omega | (simp (disch := omega) only [zi_ui, zi_ui', zl_ui, za_ui, zb_ui, zi_ul, zl_ul, zl_ul', za_ul, zb_ul, zi_ua, zl_ua, zb_ua, za_ua, za_ua', zi_ub, zl_ub, za_ub, zb_ub, zb_ub'] <;> omega))) | (with_reducible refine ev_01 ?_ ?_; (first | omega | (simp (disch := omega) only [zi_ui, zi_ui', zl_ui, za_ui, zb_ui, zi_ul, zl_ul, zl_ul', za_ul, zb_ul, zi_ua, zl_ua, zb_ua, za_ua, za_ua', zi_ub, zl_ub, za_ub, zb_ub, zb_ub'] <;> omega))))
    rfl
  | succ m ih =>
    intro fu k h1 h2
    obtain ⟨f2, rfl⟩ : ∃ f2, fu = f2 + 1 := ⟨fu - 1, by omega⟩
    have hz := hr.2 k (by omega)
    rw [f_X0_insert_p2, pl, Int.toNat_natCast, hz]
    by_cases c1 : flo (s.2 k) x
    · have l := less_1 X (hl k (by omega)).1 hx.1 c1
      rw [if_pos c1]
      (repeat first | (with_reducible refine ev_let ?_) | (with_reducible refine ev_ob2 (l) ?_) | (with_reducible refine ev_ob1 (l) ?_) | (with_reducible refine ev_rng ?_ ?_ ?_; (first | omega | (simp (disch := omega) only [zi_ui, zi_ui', zl_ui, za_ui, zb_ui, zi_ul, zl_ul, zl_ul', za_ul, zb_ul, zi_ua, zl_ua, zb_ua, za_ua, za_ua', zi_ub, zl_ub, za_ub, zb_ub, zb_ub'] <;> omega)); (first | omega | (simp (disch := omega) only [zi_ui, zi_ui', zl_ui, za_ui, zb_ui, zi_ul, zl_ul, zl_ul', za_ul, zb_ul, zi_ua, zl_ua, zb_ua, za_ua, za_ua', zi_ub, zl_ub, za_ub, zb_ub, zb_ub'] <;> omega))) | (with_reducible refine ev_ins ?_ ?_ ?_; (first | omega | (simp (disch := omega) only [zi_ui, zi_ui', zl_ui, za_ui, zb_ui, zi_ul, zl_ul, zl_ul', za_ul, zb_ul, zi_ua, zl_ua, zb_ua, za_ua, za_ua', zi_ub, zl_ub, za_ub, zb_ub, zb_ub'] <;> omega)); (first | omega | (simp (disch := omega) only [zi_ui, zi_ui', zl_ui, za_ui, zb_ui, zi_ul, zl_ul, zl_ul', za_ul, zb_ul, zi_ua, zl_ua, zb_ua, za_ua, za_ua', zi_ub, zl_ub, za_ub, zb_ub, zb_ub'] <;> omega))) | (with_reducible refine ev_if1 ?_ ?_; (first | omega | (simp (disch := omega) only [zi_ui, zi_ui', zl_ui, za_ui, zb_ui, zi_ul, zl_ul, zl_ul', za_ul, zb_ul, zi_ua, zl_ua, zb_ua, za_ua, za_ua', zi_ub, zl_ub, za_ub, zb_ub, zb_ub'] <;> omega))) | (with_reducible refine ev_if0 ?_ ?_; (first | omega | (simp (disch := omega) only [zi_ui, zi_ui', zl_ui, za_ui, zb_ui, zi_ul, zl_ul, zl_ul', za_ul, zb_ul, zi_ua, zl_ua, zb_ua, za_ua, za_ua', zi_ub, zl_ub, za_ub, zb_ub, zb_ub'] <;> omega))) | (with_reducible refine ev_rnl ?_ ?_ ?_; (first | omega | (simp (disch := omega) only [zi_ui, zi_ui', zl_ui, za_ui, zb_ui, zi_ul, zl_ul, zl_ul', za_ul, zb_ul, zi_ua, zl_ua, zb_ua, za_ua, za_ua', zi_ub, zl_ub, za_ub, zb_ub, zb_ub'] <;> omega)); (first | omega | (simp (disch := omega) only [zi_ui, zi_ui', zl_ui, za_ui, zb_ui, zi_ul, zl_ul, zl_ul', za_ul, zb_ul, zi_ua, zl_ua, zb_ua, za_ua, za_ua', zi_ub, zl_ub, za_ub, zb_ub, zb_ub'] <;> omega))) | (with_reducible refine ev_ne ?_ ?_; (first | omega | (simp (disch := omega) only [zi_ui, zi_ui', zl_ui, za_ui, zb_ui, zi_ul, zl_ul, zl_ul', za_ul, zb_ul, zi_ua, zl_ua, zb_ua, za_ua, za_ua', zi_ub, zl_ub, za_ub, zb_ub, zb_ub'] <;> omega))) | (with_reducible refine ev_01 ?_ ?_; (first | omega | (simp (disch := omega) only [zi_ui, zi_ui', zl_ui, za_ui, zb_ui, zi_ul, zl_ul, zl_ul', za_ul, zb_ul, zi_ua, zl_ua, zb_ua, za_ua, za_ua', zi_ub, zl_ub, za_ub, zb_ub, zb_ub'] <;> omega))))
      exact ih f2 (k + 1) (by omega) (by omega)
    · have l := less_0 X (hl k (by omega)).1 hx.1 c1
      rw [if_neg c1]
      (repeat first | (with_reducible refine ev_let ?_) | (with_reducible refine ev_ob2 (l) ?_) | (with_reducible refine ev_ob1 (l) ?_) | (with_reducible refine ev_rng ?_ ?_ ?_; (first | omega | (simp (disch := omega) only [zi_ui, zi_ui', zl_ui, za_ui, zb_ui, zi_ul, zl_ul, zl_ul', za_ul, zb_ul, zi_ua, zl_ua, zb_ua, za_ua, za_ua', zi_ub, zl_ub, za_ub, zb_ub, zb_ub'] <;> omega)); (first | omega | (simp (disch := omega) only [zi_ui, zi_ui', zl_ui, za_ui, zb_ui, zi_ul, zl_ul, zl_ul', za_ul, zb_ul, zi_ua, zl_ua, zb_ua, za_ua, za_ua', zi_ub, zl_ub, za_ub, zb_ub, zb_ub'] <;> omega))) | (with_reducible refine ev_ins ?_ ?_ ?_; (first | omega | (simp (disch := omega) only [zi_ui, zi_ui', zl_ui, za_ui, zb_ui, zi_ul, zl_ul, zl_ul', za_ul, zb_ul, zi_ua, zl_ua, zb_ua, za_ua, za_ua', zi_ub, zl_ub, za_ub, zb_ub, zb_ub'] <;> omega)); (first | omega | (simp (disch := omega) only [zi_ui, zi_ui', zl_ui, za_ui, zb_ui, zi_ul, zl_ul, zl_ul', za_ul, zb_ul, zi_ua, zl_ua, zb_ua, za_ua, za_ua', zi_ub, zl_ub, za_ub, zb_ub, zb_ub'] <;> omega))) | (with_reducible refine ev_if1 ?_ ?_; (first | omega | (simp (disch := omega) only [zi_ui, zi_ui', zl_ui, za_ui, zb_ui, zi_ul, zl_ul, zl_ul', za_ul, zb_ul, zi_ua, zl_ua, zb_ua, za_ua, za_ua', zi_ub, zl_ub, za_ub, zb_ub, zb_ub'] <;> omega))) | (with_reducible refine ev_if0 ?_ ?_; (first | omega | (simp (disch := omega) only [zi_ui, zi_ui', zl_ui, za_ui, zb_ui, zi_ul, zl_ul, zl_ul', za_ul, zb_ul, zi_ua, zl_ua, zb_ua, za_ua, za_ua', zi_ub, zl_ub, za_ub, zb_ub, zb_ub'] <;> omega))) | (with_reducible refine ev_rnl ?_ ?_ ?_; (first | omega | (simp (disch := omega) only [zi_ui, zi_ui', zl_ui, za_ui, zb_ui, zi_ul, zl_ul, zl_ul', za_ul, zb_ul, zi_ua, zl_ua, zb_ua, za_ua, za_ua', zi_ub, zl_ub, za_ub, zb_ub, zb_ub'] <;> omega)); (first | omega | (simp (disch := omega) only [zi_ui, zi_ui', zl_ui, za_ui, zb_ui, zi_ul, zl_ul, zl_ul', za_ul, zb_ul, zi_ua, zl_ua, zb_ua, za_ua, za_ua', zi_ub, zl_ub, za_ub, zb_ub, zb_ub'] <;> omega))) | (with_reducible refine ev_ne ?_ ?_; (first | omega | (simp (disch := omega) only [zi_ui, zi_ui', zl_ui, za_ui, zb_ui, zi_ul, zl_ul, zl_ul', za_ul, zb_ul, zi_ua, zl_ua, zb_ua, za_ua, za_ua', zi_ub, zl_ub, za_ub, zb_ub, zb_ub'] <;> omega))) | (with_reducible refine ev_01 ?_ ?_; (first | omega | (simp (disch := omega) only [zi_ui, zi_ui', zl_ui, za_ui, zb_ui, zi_ul, zl_ul, zl_ul', za_ul, zb_ul, zi_ua, zl_ua, zb_ua, za_ua, za_ua', zi_ub, zl_ub, za_ub, zb_ub, zb_ub'] <;> omega))))
      rfl
theorem insX {X : SZ} {s : CR} (hr : RepX X s) (hl : LowS s) {x : Int × Int} (hx : low x.1 x.2) (hn : s.1 < 50) : Ok (f_X0_insert X (pk x.1 x.2)) (fun X1 => Fr [12] [] [] [2] X X1 ∧ RepX X1 (insr s x)) := by
  have h12 := hr.1
  have e := insX_p hr hl hx hn s.1 FU 0 (by omega) (by rw [fu_eq]; omega)
  have hp := pl_le s.2 x s.1 0
  have xb := pk_bd hx.1
  unfold insr
  unfold f_X0_insert
  rw [show (0 : Int) = ((0 : Nat) : Int) from rfl, e]
  generalize pl s.2 x 0 s.1 = k at *
  by_cases hh : k < s.1 ∧ s.2 k = x
  · rw [if_pos hh]
    refine ⟨X, ?_, Fr.rf _ _ _ _ X, hr⟩
    have hz := hr.2 k hh.1
    rw [hh.2] at hz
    obtain ⟨hh1, hh2⟩ := hh
    unfold f_X0_insert_p29
    rw [Int.toNat_natCast, hz]
    (repeat first | (with_reducible refine ev_let ?_) | (with_reducible refine ev_rng ?_ ?_ ?_; (first | omega | (simp (disch := omega) only [zi_ui, zi_ui', zl_ui, za_ui, zb_ui, zi_ul, zl_ul, zl_ul', za_ul, zb_ul, zi_ua, zl_ua, zb_ua, za_ua, za_ua', zi_ub, zl_ub, za_ub, zb_ub, zb_ub'] <;> omega)); (first | omega | (simp (disch := omega) only [zi_ui, zi_ui', zl_ui, za_ui, zb_ui, zi_ul, zl_ul, zl_ul', za_ul, zb_ul, zi_ua, zl_ua, zb_ua, za_ua, za_ua', zi_ub, zl_ub, za_ub, zb_ub, zb_ub'] <;> omega))) | (with_reducible refine ev_ins ?_ ?_ ?_; (first | omega | (simp (disch := omega) only [zi_ui, zi_ui', zl_ui, za_ui, zb_ui, zi_ul, zl_ul, zl_ul', za_ul, zb_ul, zi_ua, zl_ua, zb_ua, za_ua, za_ua', zi_ub, zl_ub, za_ub, zb_ub, zb_ub'] <;> omega)); (first | omega | (simp (disch := omega) only [zi_ui, zi_ui', zl_ui, za_ui, zb_ui, zi_ul, zl_ul, zl_ul', za_ul, zb_ul, zi_ua, zl_ua, zb_ua, za_ua, za_ua', zi_ub, zl_ub, za_ub, zb_ub, zb_ub'] <;> omega))) | (with_reducible refine ev_if1 ?_ ?_; (first | omega | (simp (disch := omega) only [zi_ui, zi_ui', zl_ui, za_ui, zb_ui, zi_ul, zl_ul, zl_ul', za_ul, zb_ul, zi_ua, zl_ua, zb_ua, za_ua, za_ua', zi_ub, zl_ub, za_ub, zb_ub, zb_ub'] <;> omega))) | (with_reducible refine ev_if0 ?_ ?_; (first | omega | (simp (disch := omega) only [zi_ui, zi_ui', zl_ui, za_ui, zb_ui, zi_ul, zl_ul, zl_ul', za_ul, zb_ul, zi_ua, zl_ua, zb_ua, za_ua, za_ua', zi_ub, zl_ub, za_ub, zb_ub, zb_ub'] <;> omega))) | (with_reducible refine ev_rnl ?_ ?_ ?_; (first | omega | (simp (disch := omega) only [zi_ui, zi_ui', zl_ui, za_ui, zb_ui, zi_ul, zl_ul, zl_ul', za_ul, zb_ul, zi_ua, zl_ua, zb_ua, za_ua, za_ua', zi_ub, zl_ub, za_ub, zb_ub, zb_ub'] <;> omega)); (first | omega | (simp (disch := omega) only [zi_ui, zi_ui', zl_ui, za_ui, zb_ui, zi_ul, zl_ul, zl_ul', za_ul, zb_ul, zi_ua, zl_ua, zb_ua, za_ua, za_ua', zi_ub, zl_ub, za_ub, zb_ub, zb_ub'] <;> omega))) | (with_reducible refine ev_ne ?_ ?_; (first | omega | (simp (disch := omega) only [zi_ui, zi_ui', zl_ui, za_ui, zb_ui, zi_ul, zl_ul, zl_ul', za_ul, zb_ul, zi_ua, zl_ua, zb_ua, za_ua, za_ua', zi_ub, zl_ub, za_ub, zb_ub, zb_ub'] <;> omega))) | (with_reducible refine ev_01 ?_ ?_; (first | omega | (simp (disch := omega) only [zi_ui, zi_ui', zl_ui, za_ui, zb_ui, zi_ul, zl_ul, zl_ul', za_ul, zb_ul, zi_ua, zl_ua, zb_ua, za_ua, za_ua', zi_ub, zl_ub, za_ub, zb_ub, zb_ub'] <;> omega))))
    rfl
  · rw [if_neg hh]
    obtain ⟨X1, q1, q2, q3, q4⟩ := shX_p (x := pk x.1 x.2) (k := k) (s.1 - k) FU X (by rw [fu_eq]; omega) (by omega)
    rw [show k + (s.1 - k) = s.1 by omega] at q1 q4
    refine ⟨X1, ?_, q2, ?_, ?_⟩
    · unfold f_X0_insert_p29
      by_cases c1 : k < s.1
      · have hz := hr.2 k c1
        have zb1 := pk_bd (hl k c1).1
        have ne : ¬ pk (s.2 k).1 (s.2 k).2 = pk x.1 x.2 := fun h => by
          have hlk := (hl k c1).1
          have hxk := hx.1
          have := (pk_inj (by have := hlk.2.2.1; omega) (by have := hlk.2.2.2; omega) (by have := hxk.2.2.1; omega) (by have := hxk.2.2.2; omega)).mp h
          exact hh ⟨c1, Prod.ext this.1 this.2⟩
        rw [Int.toNat_natCast, hz, h12]
        (repeat first | (with_reducible refine ev_let ?_) | (with_reducible refine ev_rng ?_ ?_ ?_; (first | omega | (simp (disch := omega) only [zi_ui, zi_ui', zl_ui, za_ui, zb_ui, zi_ul, zl_ul, zl_ul', za_ul, zb_ul, zi_ua, zl_ua, zb_ua, za_ua, za_ua', zi_ub, zl_ub, za_ub, zb_ub, zb_ub'] <;> omega)); (first | omega | (simp (disch := omega) only [zi_ui, zi_ui', zl_ui, za_ui, zb_ui, zi_ul, zl_ul, zl_ul', za_ul, zb_ul, zi_ua, zl_ua, zb_ua, za_ua, za_ua', zi_ub, zl_ub, za_ub, zb_ub, zb_ub'] <;> omega))) | (with_reducible refine ev_ins ?_ ?_ ?_; (first | omega | (simp (disch := omega) only [zi_ui, zi_ui', zl_ui, za_ui, zb_ui, zi_ul, zl_ul, zl_ul', za_ul, zb_ul, zi_ua, zl_ua, zb_ua, za_ua, za_ua', zi_ub, zl_ub, za_ub, zb_ub, zb_ub'] <;> omega)); (first | omega | (simp (disch := omega) only [zi_ui, zi_ui', zl_ui, za_ui, zb_ui, zi_ul, zl_ul, zl_ul', za_ul, zb_ul, zi_ua, zl_ua, zb_ua, za_ua, za_ua', zi_ub, zl_ub, za_ub, zb_ub, zb_ub'] <;> omega))) | (with_reducible refine ev_if1 ?_ ?_; (first | omega | (simp (disch := omega) only [zi_ui, zi_ui', zl_ui, za_ui, zb_ui, zi_ul, zl_ul, zl_ul', za_ul, zb_ul, zi_ua, zl_ua, zb_ua, za_ua, za_ua', zi_ub, zl_ub, za_ub, zb_ub, zb_ub'] <;> omega))) | (with_reducible refine ev_if0 ?_ ?_; (first | omega | (simp (disch := omega) only [zi_ui, zi_ui', zl_ui, za_ui, zb_ui, zi_ul, zl_ul, zl_ul', za_ul, zb_ul, zi_ua, zl_ua, zb_ua, za_ua, za_ua', zi_ub, zl_ub, za_ub, zb_ub, zb_ub'] <;> omega))) | (with_reducible refine ev_rnl ?_ ?_ ?_; (first | omega | (simp (disch := omega) only [zi_ui, zi_ui', zl_ui, za_ui, zb_ui, zi_ul, zl_ul, zl_ul', za_ul, zb_ul, zi_ua, zl_ua, zb_ua, za_ua, za_ua', zi_ub, zl_ub, za_ub, zb_ub, zb_ub'] <;> omega)); (first | omega | (simp (disch := omega) only [zi_ui, zi_ui', zl_ui, za_ui, zb_ui, zi_ul, zl_ul, zl_ul', za_ul, zb_ul, zi_ua, zl_ua, zb_ua, za_ua, za_ua', zi_ub, zl_ub, za_ub, zb_ub, zb_ub'] <;> omega))) | (with_reducible refine ev_ne ?_ ?_; (first | omega | (simp (disch := omega) only [zi_ui, zi_ui', zl_ui, za_ui, zb_ui, zi_ul, zl_ul, zl_ul', za_ul, zb_ul, zi_ua, zl_ua, zb_ua, za_ua, za_ua', zi_ub, zl_ub, za_ub, zb_ub, zb_ub'] <;> omega))) | (with_reducible refine ev_01 ?_ ?_; (first | omega | (simp (disch := omega) only [zi_ui, zi_ui', zl_ui, za_ui, zb_ui, zi_ul, zl_ul, zl_ul', za_ul, zb_ul, zi_ua, zl_ua, zb_ua, za_ua, za_ua', zi_ub, zl_ub, za_ub, zb_ub, zb_ub'] <;> omega))))
        exact q1
      · rw [h12]
        (repeat first | (with_reducible refine ev_let ?_) | (with_reducible refine ev_rng ?_ ?_ ?_; (first | omega | (simp (disch := omega) only [zi_ui, zi_ui', zl_ui, za_ui, zb_ui, zi_ul, zl_ul, zl_ul', za_ul, zb_ul, zi_ua, zl_ua, zb_ua, za_ua, za_ua', zi_ub, zl_ub, za_ub, zb_ub, zb_ub'] <;> omega)); (first | omega | (simp (disch := omega) only [zi_ui, zi_ui', zl_ui, za_ui, zb_ui, zi_ul, zl_ul, zl_ul', za_ul, zb_ul, zi_ua, zl_ua, zb_ua, za_ua, za_ua', zi_ub, zl_ub, za_ub, zb_ub, zb_ub'] <;> omega))) | (with_reducible refine ev_ins ?_ ?_ ?_; (first | omega | (simp (disch := omega) only [zi_ui, zi_ui', zl_ui, za_ui, zb_ui, zi_ul, zl_ul, zl_ul', za_ul, zb_ul, zi_ua, zl_ua, zb_ua, za_ua, za_ua', zi_ub, zl_ub, za_ub, zb_ub, zb_ub'] <;> omega)); (first | omega | (simp (disch := omega) only [zi_ui, zi_ui', zl_ui, za_ui, zb_ui, zi_ul, zl_ul, zl_ul', za_ul, zb_ul, zi_ua, zl_ua, zb_ua, za_ua, za_ua', zi_ub, zl_ub, za_ub, zb_ub, zb_ub'] <;> omega))) | (with_reducible refine ev_if1 ?_ ?_; (first | omega | (simp (disch := omega) only [zi_ui, zi_ui', zl_ui, za_ui, zb_ui, zi_ul, zl_ul, zl_ul', za_ul, zb_ul, zi_ua, zl_ua, zb_ua, za_ua, za_ua', zi_ub, zl_ub, za_ub, zb_ub, zb_ub'] <;> omega))) | (with_reducible refine ev_if0 ?_ ?_; (first | omega | (simp (disch := omega) only [zi_ui, zi_ui', zl_ui, za_ui, zb_ui, zi_ul, zl_ul, zl_ul', za_ul, zb_ul, zi_ua, zl_ua, zb_ua, za_ua, za_ua', zi_ub, zl_ub, za_ub, zb_ub, zb_ub'] <;> omega))) | (with_reducible refine ev_rnl ?_ ?_ ?_; (first | omega | (simp (disch := omega) only [zi_ui, zi_ui', zl_ui, za_ui, zb_ui, zi_ul, zl_ul, zl_ul', za_ul, zb_ul, zi_ua, zl_ua, zb_ua, za_ua, za_ua', zi_ub, zl_ub, za_ub, zb_ub, zb_ub'] <;> omega)); (first | omega | (simp (disch := omega) only [zi_ui, zi_ui', zl_ui, za_ui, zb_ui, zi_ul, zl_ul, zl_ul', za_ul, zb_ul, zi_ua, zl_ua, zb_ua, za_ua, za_ua', zi_ub, zl_ub, za_ub, zb_ub, zb_ub'] <;> omega))) | (with_reducible refine ev_ne ?_ ?_; (first | omega | (simp (disch := omega) only [zi_ui, zi_ui', zl_ui, za_ui, zb_ui, zi_ul, zl_ul, zl_ul', za_ul, zb_ul, zi_ua, zl_ua, zb_ua, za_ua, za_ua', zi_ub, zl_ub, za_ub, zb_ub, zb_ub'] <;> omega))) | (with_reducible refine ev_01 ?_ ?_; (first | omega | (simp (disch := omega) only [zi_ui, zi_ui', zl_ui, za_ui, zb_ui, zi_ul, zl_ul, zl_ul', za_ul, zb_ul, zi_ua, zl_ua, zb_ua, za_ua, za_ua', zi_ub, zl_ub, za_ub, zb_ub, zb_ub'] <;> omega))))
        exact q1
    · rw [q3, h12]; rfl
    · intro i hi
      have hi2 : i < s.1 + 1 := hi
      rw [q4]
      simp only []
      by_cases c1 : i < k
      · rw [if_pos c1, if_pos c1]; exact hr.2 i (by omega)
      · rw [if_neg c1, if_neg c1]
        by_cases c2 : i = k
        · rw [if_pos c2, if_pos c2]
        · rw [if_neg c2, if_neg c2, if_pos (by omega)]; exact hr.2 (i - 1) (by omega)
