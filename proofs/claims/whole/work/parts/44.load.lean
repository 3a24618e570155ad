/-! STRETCHES of one edge in the class, quantities, the mask -/
noncomputable def FS (c : SZ) (p q : Nat) : Nat → Nat × (Nat → Nat)
  | 0 => (0, fun _ => 0)
  | f + 1 => if Sxb c p q f then ((FS c p q f).1 + 1, fun i => if i = (FS c p q f).1 then f else (FS c p q f).2 i) else FS c p q f
theorem fs_ok (c : SZ) (p q : Nat) : ∀ f, (FS c p q f).1 ≤ f ∧ ∀ i, i < (FS c p q f).1 → (FS c p q f).2 i < f ∧ Sx c p q ((FS c p q f).2 i)
  | 0 => ⟨Nat.le_refl _, fun i h => absurd h (Nat.not_lt_zero _)⟩
  | f + 1 => by
    have ih := fs_ok c p q f
    rw [FS]
    split
    · rename_i hh
      refine ⟨by simp only []; omega, fun i hi => ?_⟩
      simp only [] at hi ⊢
      split
      · exact ⟨by omega, Sxb_iff.mp hh⟩
      · have := ih.2 i (by omega); exact ⟨by omega, this.2⟩
    · exact ⟨by omega, fun i hi => by have := ih.2 i hi; exact ⟨by omega, this.2⟩⟩
def StX (c X : SZ) (p q f : Nat) : Prop := zi X 10 = (FS c p q f).1 ∧ ∀ i, i < (FS c p q f).1 → zb X 0 i = pk (Bu c p q ((FS c p q f).2 i)) (Bd c p q ((FS c p q f).2 i)) ∧ zb X 1 i = pk (Eu c p q ((FS c p q f).2 i)) (Ed c p q ((FS c p q f).2 i))
theorem addS_e {c X : SZ} (hg : Gd c) (hs : Sight c X) {p q f : Nat} (hp : p < np c) (hq : q < np c) (hf : f < nf c) (hr : RepX X (CutS c p q f)) (ht : StX c X p q f) : Ok (f_X0_addStretch X p q f) (fun X1 => Fr [10, 12] [] [] [0, 1, 2] X X1 ∧ RepX X1 (CutS c p q (f + 1)) ∧ StX c X1 p q (f + 1)) := by
  have n1 := nf_i hg
  have n2 := nf_24 hg
  have n3 := np_i hg
  have n4 := np_16 hg
  have m1 := hs.2.2.2.2 f p (by omega) (by omega)
  have m2 := hs.2.2.2.2 f q (by omega) (by omega)
  have bl := B_low hg p q f
  have el := E_low hg p q f
  have eb := pk_bd el.1
  have sb := sBegin_e hg (f := f) (by omega) (by omega) (by omega) m1 m2
  have cl := cuts_ln c p q f
  have fl := (fs_ok c p q f).1
  have keepN : ¬ Sx c p q f → RepX X (CutS c p q (f + 1)) ∧ StX c X p q (f + 1) := by
    intro hn
    have hb : ¬ Sxb c p q f = true := fun h => hn (Sxb_iff.mp h)
    refine ⟨by rw [CutS, if_neg hb]; exact hr, ?_⟩
    unfold StX
    rw [FS, if_neg hb]; exact ht
  rcases sEnd_e hg (f := f) (by omega) (by omega) (by omega) m1 m2 with ⟨d1, d2⟩ | ⟨d1, d2⟩
  · by_cases h1 : pk (Eu c p q f) (Ed c p q f) = 1
    · have hn : ¬ Sx c p q f := fun h => by
        have e0 : Eu c p q f = 0 := by
          obtain ⟨⟨a1, a2, a3, a4⟩, _⟩ := el
          unfold pk at h1; omega
        have h2 := h.2
        obtain ⟨⟨a1, a2, a3, a4⟩, _⟩ := el
        obtain ⟨⟨b1, b2, b3, b4⟩, _⟩ := bl
        rw [e0, Int.zero_mul] at h2
        have := Int.mul_nonneg b1 (show 0 ≤ Ed c p q f by omega)
        omega
      refine ⟨X, ?_, Fr.rf _ _ _ _ X, keepN hn⟩
      unfold f_X0_addStretch
      (repeat first | (with_reducible refine ev_let ?_) | (with_reducible refine ev_ob2 (d2) ?_) | (with_reducible refine ev_ob1 (d2) ?_) | (with_reducible refine ev_rng ?_ ?_ ?_; (first | omega | (simp (disch := omega) only [zi_ui, zi_ui', zl_ui, za_ui, zb_ui, zi_ul, zl_ul, zl_ul', za_ul, zb_ul, zi_ua, zl_ua, zb_ua, za_ua, za_ua', zi_ub, zl_ub, za_ub, zb_ub, zb_ub'] <;> omega)); (first | omega | (simp (disch := omega) only [zi_ui, zi_ui', zl_ui, za_ui, zb_ui, zi_ul, zl_ul, zl_ul', za_ul, zb_ul, zi_ua, zl_ua, zb_ua, za_ua, za_ua', zi_ub, zl_ub, za_ub, zb_ub, zb_ub'] <;> omega))) | (with_reducible refine ev_ins ?_ ?_ ?_; (first | omega | (simp (disch := omega) only [zi_ui, zi_ui', zl_ui, za_ui, zb_ui, zi_ul, zl_ul, zl_ul', za_ul, zb_ul, zi_ua, zl_ua, zb_ua, za_ua, za_ua', zi_ub, zl_ub, za_ub, zb_ub, zb_ub'] <;> omega)); (first | omega | (simp (disch := omega) only [zi_ui, zi_ui', zl_ui, za_ui, zb_ui, zi_ul, zl_ul, zl_ul', za_ul, zb_ul, zi_ua, zl_ua, zb_ua, za_ua, za_ua', zi_ub, zl_ub, za_ub, zb_ub, zb_ub'] <;> omega))) | (with_reducible refine ev_if1 ?_ ?_; (first | omega | (simp (disch := omega) only [zi_ui, zi_ui', zl_ui, za_ui, zb_ui, zi_ul, zl_ul, zl_ul', za_ul, zb_ul, zi_ua, zl_ua, zb_ua, za_ua, za_ua', zi_ub, zl_ub, za_ub, zb_ub, zb_ub'] <;> omega))) | (with_reducible refine ev_if0 ?_ ?_; (first | omega | (simp (disch := omega) only [zi_ui, zi_ui', zl_ui, za_ui, zb_ui, zi_ul, zl_ul, zl_ul', za_ul, zb_ul, zi_ua, zl_ua, zb_ua, za_ua, za_ua', zi_ub, zl_ub, za_ub, zb_ub, zb_ub'] <;> omega))) | (with_reducible refine ev_rnl ?_ ?_ ?_; (first | omega | (simp (disch := omega) only [zi_ui, zi_ui', zl_ui, za_ui, zb_ui, zi_ul, zl_ul, zl_ul', za_ul, zb_ul, zi_ua, zl_ua, zb_ua, za_ua, za_ua', zi_ub, zl_ub, za_ub, zb_ub, zb_ub'] <;> omega)); (first | omega | (simp (disch := omega) only [zi_ui, zi_ui', zl_ui, za_ui, zb_ui, zi_ul, zl_ul, zl_ul', za_ul, zb_ul, zi_ua, zl_ua, zb_ua, za_ua, za_ua', zi_ub, zl_ub, za_ub, zb_ub, zb_ub'] <;> omega))) | (with_reducible refine ev_ne ?_ ?_; (first | omega | (simp (disch := omega) only [zi_ui, zi_ui', zl_ui, za_ui, zb_ui, zi_ul, zl_ul, zl_ul', za_ul, zb_ul, zi_ua, zl_ua, zb_ua, za_ua, za_ua', zi_ub, zl_ub, za_ub, zb_ub, zb_ub'] <;> omega))) | (with_reducible refine ev_01 ?_ ?_; (first | omega | (simp (disch := omega) only [zi_ui, zi_ui', zl_ui, za_ui, zb_ui, zi_ul, zl_ul, zl_ul', za_ul, zb_ul, zi_ua, zl_ua, zb_ua, za_ua, za_ua', zi_ub, zl_ub, za_ub, zb_ub, zb_ub'] <;> omega))))
      rfl
    · by_cases hb : Bu c p q f * Ed c p q f < Eu c p q f * Bd c p q f
      · have hS : Sx c p q f := ⟨d1, hb⟩
        have l := less_1 X bl.1 el.1 hb
        have t10 := ht.1
        have F1 : Fr [10, 12] [] [] [0, 1, 2] X (ui (ub (ub X 0 (FS c p q f).1 (pk (Bu c p q f) (Bd c p q f))) 1 (FS c p q f).1 (pk (Eu c p q f) (Ed c p q f))) 10 ((FS c p q f).1 + 1)) := (((Fr.rf _ _ _ _ X).ub (by decide) _ _).ub (by decide) _ _).ui (by decide) _
        have r1 : RepX (ui (ub (ub X 0 (FS c p q f).1 (pk (Bu c p q f) (Bd c p q f))) 1 (FS c p q f).1 (pk (Eu c p q f) (Ed c p q f))) 10 ((FS c p q f).1 + 1)) (CutS c p q f) := ⟨by simp (disch := omega) only [zi_ui, zi_ui', zl_ui, za_ui, zb_ui, zi_ul, zl_ul, zl_ul', za_ul, zb_ul, zi_ua, zl_ua, zb_ua, za_ua, za_ua', zi_ub, zl_ub, za_ub, zb_ub, zb_ub']; exact hr.1, fun k hk => by simp (disch := omega) only [zi_ui, zi_ui', zl_ui, za_ui, zb_ui, zi_ul, zl_ul, zl_ul', za_ul, zb_ul, zi_ua, zl_ua, zb_ua, za_ua, za_ua', zi_ub, zl_ub, za_ub, zb_ub, zb_ub']; exact hr.2 k hk⟩
        have b1 : zb (ui (ub (ub X 0 (FS c p q f).1 (pk (Bu c p q f) (Bd c p q f))) 1 (FS c p q f).1 (pk (Eu c p q f) (Ed c p q f))) 10 ((FS c p q f).1 + 1)) 0 = fun i => if i = (FS c p q f).1 then pk (Bu c p q f) (Bd c p q f) else zb X 0 i := by
          funext i; rw [zb_ui, zb_ub' _ _ _ _ (by omega), zb_ubi]
        have b2 : zb (ui (ub (ub X 0 (FS c p q f).1 (pk (Bu c p q f) (Bd c p q f))) 1 (FS c p q f).1 (pk (Eu c p q f) (Ed c p q f))) 10 ((FS c p q f).1 + 1)) 1 = fun i => if i = (FS c p q f).1 then pk (Eu c p q f) (Ed c p q f) else zb X 1 i := by
          funext i; rw [zb_ui, zb_ubi, zb_ub' _ _ _ _ (by omega)]
        have z10 : zi (ui (ub (ub X 0 (FS c p q f).1 (pk (Bu c p q f) (Bd c p q f))) 1 (FS c p q f).1 (pk (Eu c p q f) (Ed c p q f))) 10 ((FS c p q f).1 + 1)) 10 = (FS c p q f).1 + 1 := by rw [zi_ui]
        have ev : ∀ Z, ob1 (f_X0_insert (ui (ub (ub X 0 (FS c p q f).1 (pk (Bu c p q f) (Bd c p q f))) 1 (FS c p q f).1 (pk (Eu c p q f) (Ed c p q f))) 10 ((FS c p q f).1 + 1)) (pk (Bu c p q f) (Bd c p q f))) (fun S17 => ob1 (f_X0_insert S17 (pk (Eu c p q f) (Ed c p q f))) fun S19 => some S19) = Z → f_X0_addStretch X p q f = Z := by
          intro Z hZ
          unfold f_X0_addStretch
          (repeat first | (with_reducible refine ev_let ?_) | (with_reducible refine ev_ob2 (d2) ?_) | (with_reducible refine ev_ob1 (d2) ?_) | (with_reducible refine ev_ob2 (sb) ?_) | (with_reducible refine ev_ob1 (sb) ?_) | (with_reducible refine ev_ob2 (l) ?_) | (with_reducible refine ev_ob1 (l) ?_) | (with_reducible refine ev_rng ?_ ?_ ?_; (first | omega | (simp (disch := omega) only [zi_ui, zi_ui', zl_ui, za_ui, zb_ui, zi_ul, zl_ul, zl_ul', za_ul, zb_ul, zi_ua, zl_ua, zb_ua, za_ua, za_ua', zi_ub, zl_ub, za_ub, zb_ub, zb_ub'] <;> omega)); (first | omega | (simp (disch := omega) only [zi_ui, zi_ui', zl_ui, za_ui, zb_ui, zi_ul, zl_ul, zl_ul', za_ul, zb_ul, zi_ua, zl_ua, zb_ua, za_ua, za_ua', zi_ub, zl_ub, za_ub, zb_ub, zb_ub'] <;> omega))) | (with_reducible refine ev_ins ?_ ?_ ?_; (first | omega | (simp (disch := omega) only [zi_ui, zi_ui', zl_ui, za_ui, zb_ui, zi_ul, zl_ul, zl_ul', za_ul, zb_ul, zi_ua, zl_ua, zb_ua, za_ua, za_ua', zi_ub, zl_ub, za_ub, zb_ub, zb_ub'] <;> omega)); (first | omega | (simp (disch := omega) only [zi_ui, zi_ui', zl_ui, za_ui, zb_ui, zi_ul, zl_ul, zl_ul', za_ul, zb_ul, zi_ua, zl_ua, zb_ua, za_ua, za_ua', zi_ub, zl_ub, za_ub, zb_ub, zb_ub'] <;> omega))) | (with_reducible refine ev_if1 ?_ ?_; (first | omega | (simp (disch := omega) only [zi_ui, zi_ui', zl_ui, za_ui, zb_ui, zi_ul, zl_ul, zl_ul', za_ul, zb_ul, zi_ua, zl_ua, zb_ua, za_ua, za_ua', zi_ub, zl_ub, za_ub, zb_ub, zb_ub'] <;> omega))) | (with_reducible refine ev_if0 ?_ ?_; (first | omega | (simp (disch := omega) only [zi_ui, zi_ui', zl_ui, za_ui, zb_ui, zi_ul, zl_ul, zl_ul', za_ul, zb_ul, zi_ua, zl_ua, zb_ua, za_ua, za_ua', zi_ub, zl_ub, za_ub, zb_ub, zb_ub'] <;> omega))) | (with_reducible refine ev_rnl ?_ ?_ ?_; (first | omega | (simp (disch := omega) only [zi_ui, zi_ui', zl_ui, za_ui, zb_ui, zi_ul, zl_ul, zl_ul', za_ul, zb_ul, zi_ua, zl_ua, zb_ua, za_ua, za_ua', zi_ub, zl_ub, za_ub, zb_ub, zb_ub'] <;> omega)); (first | omega | (simp (disch := omega) only [zi_ui, zi_ui', zl_ui, za_ui, zb_ui, zi_ul, zl_ul, zl_ul', za_ul, zb_ul, zi_ua, zl_ua, zb_ua, za_ua, za_ua', zi_ub, zl_ub, za_ub, zb_ub, zb_ub'] <;> omega))) | (with_reducible refine ev_ne ?_ ?_; (first | omega | (simp (disch := omega) only [zi_ui, zi_ui', zl_ui, za_ui, zb_ui, zi_ul, zl_ul, zl_ul', za_ul, zb_ul, zi_ua, zl_ua, zb_ua, za_ua, za_ua', zi_ub, zl_ub, za_ub, zb_ub, zb_ub'] <;> omega))) | (with_reducible refine ev_01 ?_ ?_; (first | omega | (simp (disch := omega) only [zi_ui, zi_ui', zl_ui, za_ui, zb_ui, zi_ul, zl_ul, zl_ul', za_ul, zb_ul, zi_ua, zl_ua, zb_ua, za_ua, za_ua', zi_ub, zl_ub, za_ub, zb_ub, zb_ub'] <;> omega))))
          simp (disch := omega) only [zi_ub, t10, Int.toNat_natCast]
          exact hZ
        generalize ui (ub (ub X 0 (FS c p q f).1 (pk (Bu c p q f) (Bd c p q f))) 1 (FS c p q f).1 (pk (Eu c p q f) (Ed c p q f))) 10 ((FS c p q f).1 + 1) = X1 at *
        obtain ⟨X2, i1, i2, i3⟩ := insX (x := (Bu c p q f, Bd c p q f)) r1 (cuts_low hg p q f) bl (by omega)
        have ln := insr_ln (CutS c p q f) (Bu c p q f, Bd c p q f)
        obtain ⟨X3, j1, j2, j3⟩ := insX (x := (Eu c p q f, Ed c p q f)) i3 (insr_low (cuts_low hg p q f) bl) el (by omega)
        refine ⟨X3, ev _ ?_, (F1.tr (i2.mono (by simp) (by simp) (by simp) (by simp))).tr (j2.mono (by simp) (by simp) (by simp) (by simp)), by rw [CutS, if_pos (Sxb_iff.mpr hS)]; exact j3, ?_⟩
        · (repeat first | (with_reducible refine ev_let ?_) | (with_reducible refine ev_ob2 (i1) ?_) | (with_reducible refine ev_ob1 (i1) ?_) | (with_reducible refine ev_ob2 (j1) ?_) | (with_reducible refine ev_ob1 (j1) ?_) | (with_reducible refine ev_rng ?_ ?_ ?_; (first | omega | (simp (disch := omega) only [zi_ui, zi_ui', zl_ui, za_ui, zb_ui, zi_ul, zl_ul, zl_ul', za_ul, zb_ul, zi_ua, zl_ua, zb_ua, za_ua, za_ua', zi_ub, zl_ub, za_ub, zb_ub, zb_ub'] <;> omega)); (first | omega | (simp (disch := omega) only [zi_ui, zi_ui', zl_ui, za_ui, zb_ui, zi_ul, zl_ul, zl_ul', za_ul, zb_ul, zi_ua, zl_ua, zb_ua, za_ua, za_ua', zi_ub, zl_ub, za_ub, zb_ub, zb_ub'] <;> omega))) | (with_reducible refine ev_ins ?_ ?_ ?_; (first | omega | (simp (disch := omega) only [zi_ui, zi_ui', zl_ui, za_ui, zb_ui, zi_ul, zl_ul, zl_ul', za_ul, zb_ul, zi_ua, zl_ua, zb_ua, za_ua, za_ua', zi_ub, zl_ub, za_ub, zb_ub, zb_ub'] <;> omega)); (first | omega | (simp (disch := omega) only [zi_ui, zi_ui', zl_ui, za_ui, zb_ui, zi_ul, zl_ul, zl_ul', za_ul, zb_ul, zi_ua, zl_ua, zb_ua, za_ua, za_ua', zi_ub, zl_ub, za_ub, zb_ub, zb_ub'] <;> omega))) | (with_reducible refine ev_if1 ?_ ?_; (first | omega | (simp (disch := omega) only [zi_ui, zi_ui', zl_ui, za_ui, zb_ui, zi_ul, zl_ul, zl_ul', za_ul, zb_ul, zi_ua, zl_ua, zb_ua, za_ua, za_ua', zi_ub, zl_ub, za_ub, zb_ub, zb_ub'] <;> omega))) | (with_reducible refine ev_if0 ?_ ?_; (first | omega | (simp (disch := omega) only [zi_ui, zi_ui', zl_ui, za_ui, zb_ui, zi_ul, zl_ul, zl_ul', za_ul, zb_ul, zi_ua, zl_ua, zb_ua, za_ua, za_ua', zi_ub, zl_ub, za_ub, zb_ub, zb_ub'] <;> omega))) | (with_reducible refine ev_rnl ?_ ?_ ?_; (first | omega | (simp (disch := omega) only [zi_ui, zi_ui', zl_ui, za_ui, zb_ui, zi_ul, zl_ul, zl_ul', za_ul, zb_ul, zi_ua, zl_ua, zb_ua, za_ua, za_ua', zi_ub, zl_ub, za_ub, zb_ub, zb_ub'] <;> omega)); (first | omega | (simp (disch := omega) only [zi_ui, zi_ui', zl_ui, za_ui, zb_ui, zi_ul, zl_ul, zl_ul', za_ul, zb_ul, zi_ua, zl_ua, zb_ua, za_ua, za_ua', zi_ub, zl_ub, za_ub, zb_ub, zb_ub'] <;> omega))) | (with_reducible refine ev_ne ?_ ?_; (first | omega | (simp (disch := omega) only [zi_ui, zi_ui', zl_ui, za_ui, zb_ui, zi_ul, zl_ul, zl_ul', za_ul, zb_ul, zi_ua, zl_ua, zb_ua, za_ua, za_ua', zi_ub, zl_ub, za_ub, zb_ub, zb_ub'] <;> omega))) | (with_reducible refine ev_01 ?_ ?_; (first | omega | (simp (disch := omega) only [zi_ui, zi_ui', zl_ui, za_ui, zb_ui, zi_ul, zl_ul, zl_ul', za_ul, zb_ul, zi_ua, zl_ua, zb_ua, za_ua, za_ua', zi_ub, zl_ub, za_ub, zb_ub, zb_ub'] <;> omega))))
          rfl
        · unfold StX
          rw [FS, if_pos (Sxb_iff.mpr hS), j2.1 10 (by decide), i2.1 10 (by decide), z10]
          refine ⟨rfl, fun i hi => ?_⟩
          rw [j2.2.2.2 0 _ (by decide), i2.2.2.2 0 _ (by decide), j2.2.2.2 1 _ (by decide), i2.2.2.2 1 _ (by decide), b1, b2]
          simp only [] at hi ⊢
          by_cases hh : i = (FS c p q f).1
          · simp only [if_pos hh]; exact ⟨trivial, trivial⟩
          · simp only [if_neg hh]; exact ht.2 i (by omega)
      · have l := less_0 X bl.1 el.1 hb
        refine ⟨X, ?_, Fr.rf _ _ _ _ X, keepN (fun h => hb h.2)⟩
        unfold f_X0_addStretch
        (repeat first | (with_reducible refine ev_let ?_) | (with_reducible refine ev_ob2 (d2) ?_) | (with_reducible refine ev_ob1 (d2) ?_) | (with_reducible refine ev_ob2 (sb) ?_) | (with_reducible refine ev_ob1 (sb) ?_) | (with_reducible refine ev_ob2 (l) ?_) | (with_reducible refine ev_ob1 (l) ?_) | (with_reducible refine ev_rng ?_ ?_ ?_; (first | omega | (simp (disch := omega) only [zi_ui, zi_ui', zl_ui, za_ui, zb_ui, zi_ul, zl_ul, zl_ul', za_ul, zb_ul, zi_ua, zl_ua, zb_ua, za_ua, za_ua', zi_ub, zl_ub, za_ub, zb_ub, zb_ub'] <;> omega)); (first | omega | (simp (disch := omega) only [zi_ui, zi_ui', zl_ui, za_ui, zb_ui, zi_ul, zl_ul, zl_ul', za_ul, zb_ul, zi_ua, zl_ua, zb_ua, za_ua, za_ua', zi_ub, zl_ub, za_ub, zb_ub, zb_ub'] <;> omega))) | (with_reducible refine ev_ins ?_ ?_ ?_; (first | omega | (simp (disch := omega) only [zi_ui, zi_ui', zl_ui, za_ui, zb_ui, zi_ul, zl_ul, zl_ul', za_ul, zb_ul, zi_ua, zl_ua, zb_ua, za_ua, za_ua', zi_ub, zl_ub, za_ub, zb_ub, zb_ub'] <;> omega)); (first | omega | (simp (disch := omega) only [zi_ui, zi_ui', zl_ui, za_ui, zb_ui, zi_ul, zl_ul, zl_ul', za_ul, zb_ul, zi_ua, zl_ua, zb_ua, za_ua, za_ua', zi_ub, zl_ub, za_ub, zb_ub, zb_ub'] <;> omega))) | (with_reducible refine ev_if1 ?_ ?_; (first | omega | (simp (disch := omega) only [zi_ui, zi_ui', zl_ui, za_ui, zb_ui, zi_ul, zl_ul, zl_ul', za_ul, zb_ul, zi_ua, zl_ua, zb_ua, za_ua, za_ua', zi_ub, zl_ub, za_ub, zb_ub, zb_ub'] <;> omega))) | (with_reducible refine ev_if0 ?_ ?_; (first | omega | (simp (disch := omega) only [zi_ui, zi_ui', zl_ui, za_ui, zb_ui, zi_ul, zl_ul, zl_ul', za_ul, zb_ul, zi_ua, zl_ua, zb_ua, za_ua, za_ua', zi_ub, zl_ub, za_ub, zb_ub, zb_ub'] <;> omega))) | (with_reducible refine ev_rnl ?_ ?_ ?_; (first | omega | (simp (disch := omega) only [zi_ui, zi_ui', zl_ui, za_ui, zb_ui, zi_ul, zl_ul, zl_ul', za_ul, zb_ul, zi_ua, zl_ua, zb_ua, za_ua, za_ua', zi_ub, zl_ub, za_ub, zb_ub, zb_ub'] <;> omega)); (first | omega | (simp (disch := omega) only [zi_ui, zi_ui', zl_ui, za_ui, zb_ui, zi_ul, zl_ul, zl_ul', za_ul, zb_ul, zi_ua, zl_ua, zb_ua, za_ua, za_ua', zi_ub, zl_ub, za_ub, zb_ub, zb_ub'] <;> omega))) | (with_reducible refine ev_ne ?_ ?_; (first | omega | (simp (disch := omega) only [zi_ui, zi_ui', zl_ui, za_ui, zb_ui, zi_ul, zl_ul, zl_ul', za_ul, zb_ul, zi_ua, zl_ua, zb_ua, za_ua, za_ua', zi_ub, zl_ub, za_ub, zb_ub, zb_ub'] <;> omega))) | (with_reducible refine ev_01 ?_ ?_; (first | omega | (simp (disch := omega) only [zi_ui, zi_ui', zl_ui, za_ui, zb_ui, zi_ul, zl_ul, zl_ul', za_ul, zb_ul, zi_ua, zl_ua, zb_ua, za_ua, za_ua', zi_ub, zl_ub, za_ub, zb_ub, zb_ub'] <;> omega))))
        rfl
  · refine ⟨X, ?_, Fr.rf _ _ _ _ X, keepN (fun h => h.1 d1)⟩
    have d3 : f_X6_stretchEnd X p q f = some (X, 1) := d2
    unfold f_X0_addStretch
    (repeat first | (with_reducible refine ev_let ?_) | (with_reducible refine ev_ob2 (d3) ?_) | (with_reducible refine ev_ob1 (d3) ?_) | (with_reducible refine ev_rng ?_ ?_ ?_; (first | omega | (simp (disch := omega) only [zi_ui, zi_ui', zl_ui, za_ui, zb_ui, zi_ul, zl_ul, zl_ul', za_ul, zb_ul, zi_ua, zl_ua, zb_ua, za_ua, za_ua', zi_ub, zl_ub, za_ub, zb_ub, zb_ub'] <;> omega)); (first | omega | (simp (disch := omega) only [zi_ui, zi_ui', zl_ui, za_ui, zb_ui, zi_ul, zl_ul, zl_ul', za_ul, zb_ul, zi_ua, zl_ua, zb_ua, za_ua, za_ua', zi_ub, zl_ub, za_ub, zb_ub, zb_ub'] <;> omega))) | (with_reducible refine ev_ins ?_ ?_ ?_; (first | omega | (simp (disch := omega) only [zi_ui, zi_ui', zl_ui, za_ui, zb_ui, zi_ul, zl_ul, zl_ul', za_ul, zb_ul, zi_ua, zl_ua, zb_ua, za_ua, za_ua', zi_ub, zl_ub, za_ub, zb_ub, zb_ub'] <;> omega)); (first | omega | (simp (disch := omega) only [zi_ui, zi_ui', zl_ui, za_ui, zb_ui, zi_ul, zl_ul, zl_ul', za_ul, zb_ul, zi_ua, zl_ua, zb_ua, za_ua, za_ua', zi_ub, zl_ub, za_ub, zb_ub, zb_ub'] <;> omega))) | (with_reducible refine ev_if1 ?_ ?_; (first | omega | (simp (disch := omega) only [zi_ui, zi_ui', zl_ui, za_ui, zb_ui, zi_ul, zl_ul, zl_ul', za_ul, zb_ul, zi_ua, zl_ua, zb_ua, za_ua, za_ua', zi_ub, zl_ub, za_ub, zb_ub, zb_ub'] <;> omega))) | (with_reducible refine ev_if0 ?_ ?_; (first | omega | (simp (disch := omega) only [zi_ui, zi_ui', zl_ui, za_ui, zb_ui, zi_ul, zl_ul, zl_ul', za_ul, zb_ul, zi_ua, zl_ua, zb_ua, za_ua, za_ua', zi_ub, zl_ub, za_ub, zb_ub, zb_ub'] <;> omega))) | (with_reducible refine ev_rnl ?_ ?_ ?_; (first | omega | (simp (disch := omega) only [zi_ui, zi_ui', zl_ui, za_ui, zb_ui, zi_ul, zl_ul, zl_ul', za_ul, zb_ul, zi_ua, zl_ua, zb_ua, za_ua, za_ua', zi_ub, zl_ub, za_ub, zb_ub, zb_ub'] <;> omega)); (first | omega | (simp (disch := omega) only [zi_ui, zi_ui', zl_ui, za_ui, zb_ui, zi_ul, zl_ul, zl_ul', za_ul, zb_ul, zi_ua, zl_ua, zb_ua, za_ua, za_ua', zi_ub, zl_ub, za_ub, zb_ub, zb_ub'] <;> omega))) | (with_reducible refine ev_ne ?_ ?_; (first | omega | (simp (disch := omega) only [zi_ui, zi_ui', zl_ui, za_ui, zb_ui, zi_ul, zl_ul, zl_ul', za_ul, zb_ul, zi_ua, zl_ua, zb_ua, za_ua, za_ua', zi_ub, zl_ub, za_ub, zb_ub, zb_ub'] <;> omega))) | (with_reducible refine ev_01 ?_ ?_; (first | omega | (simp (disch := omega) only [zi_ui, zi_ui', zl_ui, za_ui, zb_ui, zi_ul, zl_ul, zl_ul', za_ul, zb_ul, zi_ua, zl_ua, zb_ua, za_ua, za_ua', zi_ub, zl_ub, za_ub, zb_ub, zb_ub'] <;> omega))))
    rfl
/-- a face covers a piece -/
def Cov (c : SZ) (p q f k : Nat) : Prop := Sx c p q f ∧ ¬ flo ((CS c p q).2 k) (Bu c p q f, Bd c p q f) ∧ ¬ flo (Eu c p q f, Ed c p q f) ((CS c p q).2 (k + 1))
noncomputable def covn (c : SZ) (p q f k : Nat) : Nat := @ite _ (Cov c p q f k) (Classical.propDecidable _) 1 0
theorem covn_1 {c : SZ} {p q f k : Nat} (h : Cov c p q f k) : covn c p q f k = 1 := by unfold covn; exact if_pos h
theorem covn_0 {c : SZ} {p q f k : Nat} (h : ¬ Cov c p q f k) : covn c p q f k = 0 := by unfold covn; exact if_neg h
noncomputable def qn (c : SZ) (p q k : Nat) : Nat → Nat
  | 0 => 0
  | f + 1 => qn c p q k f + covn c p q f k
noncomputable def Q (c : SZ) (p q k : Nat) : Nat := qn c p q k (nf c)
theorem covn_le (c : SZ) (p q f k : Nat) : covn c p q f k ≤ 1 := by
  by_cases h : Cov c p q f k
  · rw [covn_1 h]; omega
  · rw [covn_0 h]; omega
theorem qn_le (c : SZ) (p q k : Nat) : ∀ f, qn c p q k f ≤ f
  | 0 => Nat.le_refl _
  | f + 1 => by have := qn_le c p q k f; have := covn_le c p q f k; rw [qn]; omega
theorem Q_le {c : SZ} (hg : Gd c) (p q k : Nat) : Q c p q k ≤ 24 := by have := qn_le c p q k (nf c); have := nf_24 hg; unfold Q; omega
noncomputable def qi (c : SZ) (p q k : Nat) (h : Nat → Nat) : Nat → Nat
  | 0 => 0
  | i + 1 => qi c p q k h i + covn c p q (h i) k
theorem qi_cg {c : SZ} {p q k : Nat} {h h2 : Nat → Nat} : ∀ m, (∀ i, i < m → h i = h2 i) → qi c p q k h m = qi c p q k h2 m
  | 0, _ => rfl
  | m + 1, hh => by rw [qi, qi, qi_cg m (fun i hi => hh i (by omega)), hh m (by omega)]
theorem qi_qn (c : SZ) (p q k : Nat) : ∀ f, qi c p q k (FS c p q f).2 (FS c p q f).1 = qn c p q k f
  | 0 => rfl
  | f + 1 => by
    have ih := qi_qn c p q k f
    rw [FS]
    split
    · rename_i hh
      rw [qi, qn, ← ih, qi_cg (h2 := (FS c p q f).2) _ (fun i hi => if_neg (by omega))]
      simp only [if_pos]
    · rename_i hh
      rw [qn, ih, covn_0 (fun h => hh (Sxb_iff.mpr h.1))]; rfl
theorem cov_ij {c : SZ} (hg : Gd c) {p q f : Nat} (hf : f < nf c) (hS : Sx c p q f) : ∃ i0 j0, i0 < j0 ∧ j0 < (CS c p q).1 ∧ (CS c p q).2 i0 = (Bu c p q f, Bd c p q f) ∧ (CS c p q).2 j0 = (Eu c p q f, Ed c p q f) ∧ ∀ k, k + 1 < (CS c p q).1 → (Cov c p q f k ↔ i0 ≤ k ∧ k < j0) := by
  obtain ⟨⟨i0, h1, h2⟩, ⟨j0, h3, h4⟩⟩ := cuts_has (c := c) p q (nf c) f hf hS
  have hs := cuts_srt hg p q (nf c)
  have hl := cuts_low hg p q (nf c)
  change i0 < (CS c p q).1 at h1
  change j0 < (CS c p q).1 at h3
  change (CS c p q).2 i0 = _ at h2
  change (CS c p q).2 j0 = _ at h4
  change SrtS (CS c p q) at hs
  change LowS (CS c p q) at hl
  have asym : ∀ a b, a < (CS c p q).1 → b < (CS c p q).1 → (flo ((CS c p q).2 a) ((CS c p q).2 b) ↔ a < b) := by
    intro a b ha hb
    constructor
    · intro h
      rcases Nat.lt_trichotomy a b with l | l | l
      · exact l
      · rw [l] at h; exact absurd h flo_ir
      · exact absurd (flo_tr (hl a ha).1.2.2.1 (hl b hb).1.2.2.1 (hl a ha).1.2.2.1 h (hs b a l ha)) flo_ir
    · intro h; exact hs a b h hb
  have ij : i0 < j0 := by
    refine (asym i0 j0 h1 h3).mp ?_
    rw [h2, h4]; exact hS.2
  refine ⟨i0, j0, ij, h3, h2, h4, fun k hk => ?_⟩
  unfold Cov
  rw [← h2, ← h4, asym k i0 (by omega) h1, asym j0 (k + 1) h3 hk]
  constructor
  · rintro ⟨_, a, b⟩; omega
  · intro h; exact ⟨hS, by omega, by omega⟩
def QX (c X : SZ) (p q i : Nat) : Prop := ∀ k, k + 1 < (CS c p q).1 → za X 17 k = qi c p q k (FS c p q (nf c)).2 i
theorem CS_ln {c : SZ} (hg : Gd c) (p q : Nat) : 2 ≤ (CS c p q).1 ∧ (CS c p q).1 ≤ 50 := by
  have := cuts_ln c p q (nf c)
  have := nf_24 hg
  unfold CS; omega
theorem qrow_p {c : SZ} (hg : Gd c) {p q i : Nat} (hi : i < (FS c p q (nf c)).1) {P : SZ → Prop} {k10 : SZ → Int → Option SZ} : ∀ (fu k : Nat) (X : SZ) (v : Int), RepX X (CS c p q) → StX c X p q (nf c) → k + 1 ≤ (CS c p q).1 → (CS c p q).1 < k + 1 + fu → (v = 1 ∧ 0 < k ∧ Cov c p q ((FS c p q (nf c)).2 i) (k - 1) ∨ v = 0 ∧ ¬ (0 < k ∧ Cov c p q ((FS c p q (nf c)).2 i) (k - 1))) → (∀ j, j + 1 < (CS c p q).1 → za X 17 j = qi c p q j (FS c p q (nf c)).2 (if j < k then i + 1 else i)) → (∀ X1, Fr [] [17] [] [] X X1 → QX c X1 p q (i + 1) → Ok (k10 X1 ((i : Int) + 1)) P) → Ok (f_X0_countQuantities_p22 k10 fu X i v k) P := by
  have hS := ((fs_ok c p q (nf c)).2 i hi).2
  have hF := ((fs_ok c p q (nf c)).2 i hi).1
  have fl := (fs_ok c p q (nf c)).1
  have n2 := nf_24 hg
  obtain ⟨i0, j0, ij, hj, h2, h4, hcov⟩ := cov_ij hg hF hS
  have hln := CS_ln hg p q
  have hl : LowS (CS c p q) := cuts_low hg p q (nf c)
  have hs : SrtS (CS c p q) := cuts_srt hg p q (nf c)
  have inj : ∀ a b, a < (CS c p q).1 → b < (CS c p q).1 → (CS c p q).2 a = (CS c p q).2 b → a = b := by
    intro a b ha hb h
    rcases Nat.lt_trichotomy a b with l | l | l
    · have := hs a b l hb; rw [h] at this; exact absurd this flo_ir
    · exact l
    · have := hs b a l ha; rw [h] at this; exact absurd this flo_ir
  have pkeq : ∀ a b, a < (CS c p q).1 → b < (CS c p q).1 → (pk ((CS c p q).2 a).1 ((CS c p q).2 a).2 = pk ((CS c p q).2 b).1 ((CS c p q).2 b).2 ↔ a = b) := by
    intro a b ha hb
    have la := (hl a ha).1
    have lb := (hl b hb).1
    obtain ⟨a1, a2, a3, a4⟩ := la
    obtain ⟨b1, b2, b3, b4⟩ := lb
    rw [pk_inj (by omega) (by omega) (by omega) (by omega)]
    constructor
    · rintro ⟨e1, e2⟩; exact inj a b ha hb (Prod.ext e1 e2)
    · rintro rfl; exact ⟨rfl, rfl⟩
  intro fu
  induction fu with
  | zero => intro k X v hr ht h1 h3; exact absurd h3 (by omega)
  | succ fu ih =>
    intro k X v hr ht h1 h3 hv hq K
    have h12 := hr.1
    by_cases hk : k + 1 = (CS c p q).1
    · obtain ⟨X1, q1, q2⟩ := K X (Fr.rf _ _ _ _ X) (by
        intro j hj2
        have := hq j hj2
        rw [if_pos (by omega)] at this
        exact this)
      refine ⟨X1, ?_, q2⟩
      rw [f_X0_countQuantities_p22]
      (repeat first | (with_reducible refine ev_let ?_) | (with_reducible refine ev_rng ?_ ?_ ?_; (first | omega | (simp (disch := omega) only [zi_ui, zi_ui', zl_ui, za_ui, zb_ui, zi_ul, zl_ul, zl_ul', za_ul, zb_ul, zi_ua, zl_ua, zb_ua, za_ua, za_ua', zi_ub, zl_ub, za_ub, zb_ub, zb_ub'] <;> omega)); (first | omega | (simp (disch := omega) only [zi_ui, zi_ui', zl_ui, za_ui, zb_ui, zi_ul, zl_ul, zl_ul', za_ul, zb_ul, zi_ua, zl_ua, zb_ua, za_ua, za_ua', zi_ub, zl_ub, za_ub, zb_ub, zb_ub'] <;> omega))) | (with_reducible refine ev_ins ?_ ?_ ?_; (first | omega | (simp (disch := omega) only [zi_ui, zi_ui', zl_ui, za_ui, zb_ui, zi_ul, zl_ul, zl_ul', za_ul, zb_ul, zi_ua, zl_ua, zb_ua, za_ua, za_ua', zi_ub, zl_ub, za_ub, zb_ub, zb_ub'] <;> omega)); (first | omega | (simp (disch := omega) only [zi_ui, zi_ui', zl_ui, za_ui, zb_ui, zi_ul, zl_ul, zl_ul', za_ul, zb_ul, zi_ua, zl_ua, zb_ua, za_ua, za_ua', zi_ub, zl_ub, za_ub, zb_ub, zb_ub'] <;> omega))) | (with_reducible refine ev_if1 ?_ ?_; (first | omega | (simp (disch := omega) only [zi_ui, zi_ui', zl_ui, za_ui, zb_ui, zi_ul, zl_ul, zl_ul', za_ul, zb_ul, zi_ua, zl_ua, zb_ua, za_ua, za_ua', zi_ub, zl_ub, za_ub, zb_ub, zb_ub'] <;> omega))) | (with_reducible refine ev_if0 ?_ ?_; (first | omega | (simp (disch := omega) only [zi_ui, zi_ui', zl_ui, za_ui, zb_ui, zi_ul, zl_ul, zl_ul', za_ul, zb_ul, zi_ua, zl_ua, zb_ua, za_ua, za_ua', zi_ub, zl_ub, za_ub, zb_ub, zb_ub'] <;> omega))) | (with_reducible refine ev_rnl ?_ ?_ ?_; (first | omega | (simp (disch := omega) only [zi_ui, zi_ui', zl_ui, za_ui, zb_ui, zi_ul, zl_ul, zl_ul', za_ul, zb_ul, zi_ua, zl_ua, zb_ua, za_ua, za_ua', zi_ub, zl_ub, za_ub, zb_ub, zb_ub'] <;> omega)); (first | omega | (simp (disch := omega) only [zi_ui, zi_ui', zl_ui, za_ui, zb_ui, zi_ul, zl_ul, zl_ul', za_ul, zb_ul, zi_ua, zl_ua, zb_ua, za_ua, za_ua', zi_ub, zl_ub, za_ub, zb_ub, zb_ub'] <;> omega))) | (with_reducible refine ev_ne ?_ ?_; (first | omega | (simp (disch := omega) only [zi_ui, zi_ui', zl_ui, za_ui, zb_ui, zi_ul, zl_ul, zl_ul', za_ul, zb_ul, zi_ua, zl_ua, zb_ua, za_ua, za_ua', zi_ub, zl_ub, za_ub, zb_ub, zb_ub'] <;> omega))) | (with_reducible refine ev_01 ?_ ?_; (first | omega | (simp (disch := omega) only [zi_ui, zi_ui', zl_ui, za_ui, zb_ui, zi_ul, zl_ul, zl_ul', za_ul, zb_ul, zi_ua, zl_ua, zb_ua, za_ua, za_ua', zi_ub, zl_ub, za_ub, zb_ub, zb_ub'] <;> omega))))
      exact q1
    · have hz := hr.2 k (by omega)
      obtain ⟨z0, z1⟩ := ht.2 i hi
      have z0' : zb X 0 i = pk ((CS c p q).2 i0).1 ((CS c p q).2 i0).2 := by rw [h2]; exact z0
      have z1' : zb X 1 i = pk ((CS c p q).2 j0).1 ((CS c p q).2 j0).2 := by rw [h4]; exact z1
      have b1 := pk_bd (hl k (by omega)).1
      have b2 := pk_bd (hl i0 (by omega)).1
      have b3 := pk_bd (hl j0 (by omega)).1
      have ck := hcov k (by omega)
      have qb : za X 17 k = qi c p q k (FS c p q (nf c)).2 i := by
        have := hq k (by omega); rw [if_neg (by omega)] at this; exact this
      have hv01 : v = 0 ∨ v = 1 := by rcases hv with h | h <;> omega
      have hold : (v = 1 ↔ 0 < k ∧ i0 ≤ k - 1 ∧ k - 1 < j0) := by
        by_cases hk0 : 0 < k
        · have := hcov (k - 1) (by omega)
          rcases hv with ⟨a, b, d⟩ | ⟨a, b⟩
          · exact ⟨fun _ => ⟨b, this.mp d⟩, fun _ => a⟩
          · exact ⟨fun h => by omega, fun h => absurd ⟨hk0, this.mpr h.2⟩ b⟩
        · rcases hv with ⟨a, b, d⟩ | ⟨a, b⟩
          · exact absurd b hk0
          · exact ⟨fun h => by omega, fun h => absurd h.1 hk0⟩
      have s1 : Cov c p q ((FS c p q (nf c)).2 i) k → Ok (f_X0_countQuantities_p73 k10 (f_X0_countQuantities_p22 k10 fu) X i k 1) P := by
        intro hC
        have F1 : Fr [] [17] [] [] X (ua X 17 k (za X 17 k + 1)) := (Fr.rf _ _ _ _ X).ua (by decide) _ _
        obtain ⟨X1, q1, q2⟩ := ih (k + 1) (ua X 17 k (za X 17 k + 1)) 1 ⟨by rw [zi_ua]; exact hr.1, fun j hj => by rw [zb_ua]; exact hr.2 j hj⟩ ⟨by rw [zi_ua]; exact ht.1, fun j hj => by rw [zb_ua, zb_ua]; exact ht.2 j hj⟩ (by omega) (by omega) (Or.inl ⟨rfl, by omega, hC⟩) (by
          intro j hj
          rw [za_uai]
          by_cases hjk : j = k
          · rw [if_pos hjk, if_pos (by omega), qb, hjk, qi, covn_1 hC]; rfl
          · rw [if_neg hjk, hq j hj]
            by_cases c1 : j < k
            · rw [if_pos c1, if_pos (by omega)]
            · rw [if_neg c1, if_neg (by omega)]) (fun X1 F2 => K X1 (F1.tr F2))
        refine ⟨X1, ?_, q2⟩
        unfold f_X0_countQuantities_p73
        (repeat first | (with_reducible refine ev_let ?_) | (with_reducible refine ev_rng ?_ ?_ ?_; (first | omega | (simp (disch := omega) only [zi_ui, zi_ui', zl_ui, za_ui, zb_ui, zi_ul, zl_ul, zl_ul', za_ul, zb_ul, zi_ua, zl_ua, zb_ua, za_ua, za_ua', zi_ub, zl_ub, za_ub, zb_ub, zb_ub'] <;> omega)); (first | omega | (simp (disch := omega) only [zi_ui, zi_ui', zl_ui, za_ui, zb_ui, zi_ul, zl_ul, zl_ul', za_ul, zb_ul, zi_ua, zl_ua, zb_ua, za_ua, za_ua', zi_ub, zl_ub, za_ub, zb_ub, zb_ub'] <;> omega))) | (with_reducible refine ev_ins ?_ ?_ ?_; (first | omega | (simp (disch := omega) only [zi_ui, zi_ui', zl_ui, za_ui, zb_ui, zi_ul, zl_ul, zl_ul', za_ul, zb_ul, zi_ua, zl_ua, zb_ua, za_ua, za_ua', zi_ub, zl_ub, za_ub, zb_ub, zb_ub'] <;> omega)); (first | omega | (simp (disch := omega) only [zi_ui, zi_ui', zl_ui, za_ui, zb_ui, zi_ul, zl_ul, zl_ul', za_ul, zb_ul, zi_ua, zl_ua, zb_ua, za_ua, za_ua', zi_ub, zl_ub, za_ub, zb_ub, zb_ub'] <;> omega))) | (with_reducible refine ev_if1 ?_ ?_; (first | omega | (simp (disch := omega) only [zi_ui, zi_ui', zl_ui, za_ui, zb_ui, zi_ul, zl_ul, zl_ul', za_ul, zb_ul, zi_ua, zl_ua, zb_ua, za_ua, za_ua', zi_ub, zl_ub, za_ub, zb_ub, zb_ub'] <;> omega))) | (with_reducible refine ev_if0 ?_ ?_; (first | omega | (simp (disch := omega) only [zi_ui, zi_ui', zl_ui, za_ui, zb_ui, zi_ul, zl_ul, zl_ul', za_ul, zb_ul, zi_ua, zl_ua, zb_ua, za_ua, za_ua', zi_ub, zl_ub, za_ub, zb_ub, zb_ub'] <;> omega))) | (with_reducible refine ev_rnl ?_ ?_ ?_; (first | omega | (simp (disch := omega) only [zi_ui, zi_ui', zl_ui, za_ui, zb_ui, zi_ul, zl_ul, zl_ul', za_ul, zb_ul, zi_ua, zl_ua, zb_ua, za_ua, za_ua', zi_ub, zl_ub, za_ub, zb_ub, zb_ub'] <;> omega)); (first | omega | (simp (disch := omega) only [zi_ui, zi_ui', zl_ui, za_ui, zb_ui, zi_ul, zl_ul, zl_ul', za_ul, zb_ul, zi_ua, zl_ua, zb_ua, za_ua, za_ua', zi_ub, zl_ub, za_ub, zb_ub, zb_ub'] <;> omega))) | (with_reducible refine ev_ne ?_ ?_; (first | omega | (simp (disch := omega) only [zi_ui, zi_ui', zl_ui, za_ui, zb_ui, zi_ul, zl_ul, zl_ul', za_ul, zb_ul, zi_ua, zl_ua, zb_ua, za_ua, za_ua', zi_ub, zl_ub, za_ub, zb_ub, zb_ub'] <;> omega))) | (with_reducible refine ev_01 ?_ ?_; (first | omega | (simp (disch := omega) only [zi_ui, zi_ui', zl_ui, za_ui, zb_ui, zi_ul, zl_ul, zl_ul', za_ul, zb_ul, zi_ua, zl_ua, zb_ua, za_ua, za_ua', zi_ub, zl_ub, za_ub, zb_ub, zb_ub'] <;> omega))))
        exact q1
      have s0 : ¬ Cov c p q ((FS c p q (nf c)).2 i) k → Ok (f_X0_countQuantities_p73 k10 (f_X0_countQuantities_p22 k10 fu) X i k 0) P := by
        intro hC
        obtain ⟨X1, q1, q2⟩ := ih (k + 1) X 0 hr ht (by omega) (by omega) (Or.inr ⟨rfl, fun h => hC h.2⟩) (by
          intro j hj
          rw [hq j hj]
          by_cases hjk : j = k
          · rw [if_neg (by omega), if_pos (by omega), hjk, qi, covn_0 hC]; rfl
          · by_cases c1 : j < k
            · rw [if_pos c1, if_pos (by omega)]
            · rw [if_neg c1, if_neg (by omega)]) K
        refine ⟨X1, ?_, q2⟩
        unfold f_X0_countQuantities_p73
        (repeat first | (with_reducible refine ev_let ?_) | (with_reducible refine ev_rng ?_ ?_ ?_; (first | omega | (simp (disch := omega) only [zi_ui, zi_ui', zl_ui, za_ui, zb_ui, zi_ul, zl_ul, zl_ul', za_ul, zb_ul, zi_ua, zl_ua, zb_ua, za_ua, za_ua', zi_ub, zl_ub, za_ub, zb_ub, zb_ub'] <;> omega)); (first | omega | (simp (disch := omega) only [zi_ui, zi_ui', zl_ui, za_ui, zb_ui, zi_ul, zl_ul, zl_ul', za_ul, zb_ul, zi_ua, zl_ua, zb_ua, za_ua, za_ua', zi_ub, zl_ub, za_ub, zb_ub, zb_ub'] <;> omega))) | (with_reducible refine ev_ins ?_ ?_ ?_; (first | omega | (simp (disch := omega) only [zi_ui, zi_ui', zl_ui, za_ui, zb_ui, zi_ul, zl_ul, zl_ul', za_ul, zb_ul, zi_ua, zl_ua, zb_ua, za_ua, za_ua', zi_ub, zl_ub, za_ub, zb_ub, zb_ub'] <;> omega)); (first | omega | (simp (disch := omega) only [zi_ui, zi_ui', zl_ui, za_ui, zb_ui, zi_ul, zl_ul, zl_ul', za_ul, zb_ul, zi_ua, zl_ua, zb_ua, za_ua, za_ua', zi_ub, zl_ub, za_ub, zb_ub, zb_ub'] <;> omega))) | (with_reducible refine ev_if1 ?_ ?_; (first | omega | (simp (disch := omega) only [zi_ui, zi_ui', zl_ui, za_ui, zb_ui, zi_ul, zl_ul, zl_ul', za_ul, zb_ul, zi_ua, zl_ua, zb_ua, za_ua, za_ua', zi_ub, zl_ub, za_ub, zb_ub, zb_ub'] <;> omega))) | (with_reducible refine ev_if0 ?_ ?_; (first | omega | (simp (disch := omega) only [zi_ui, zi_ui', zl_ui, za_ui, zb_ui, zi_ul, zl_ul, zl_ul', za_ul, zb_ul, zi_ua, zl_ua, zb_ua, za_ua, za_ua', zi_ub, zl_ub, za_ub, zb_ub, zb_ub'] <;> omega))) | (with_reducible refine ev_rnl ?_ ?_ ?_; (first | omega | (simp (disch := omega) only [zi_ui, zi_ui', zl_ui, za_ui, zb_ui, zi_ul, zl_ul, zl_ul', za_ul, zb_ul, zi_ua, zl_ua, zb_ua, za_ua, za_ua', zi_ub, zl_ub, za_ub, zb_ub, zb_ub'] <;> omega)); (first | omega | (simp (disch := omega) only [zi_ui, zi_ui', zl_ui, za_ui, zb_ui, zi_ul, zl_ul, zl_ul', za_ul, zb_ul, zi_ua, zl_ua, zb_ua, za_ua, za_ua', zi_ub, zl_ub, za_ub, zb_ub, zb_ub'] <;> omega))) | (with_reducible refine ev_ne ?_ ?_; (first | omega | (simp (disch := omega) only [zi_ui, zi_ui', zl_ui, za_ui, zb_ui, zi_ul, zl_ul, zl_ul', za_ul, zb_ul, zi_ua, zl_ua, zb_ua, za_ua, za_ua', zi_ub, zl_ub, za_ub, zb_ub, zb_ub'] <;> omega))) | (with_reducible refine ev_01 ?_ ?_; (first | omega | (simp (disch := omega) only [zi_ui, zi_ui', zl_ui, za_ui, zb_ui, zi_ul, zl_ul, zl_ul', za_ul, zb_ul, zi_ua, zl_ua, zb_ua, za_ua, za_ua', zi_ub, zl_ub, za_ub, zb_ub, zb_ub'] <;> omega))))
        exact q1
      by_cases c1 : k = i0
      · obtain ⟨X1, q1, q2⟩ := s1 (ck.mpr (by omega))
        have e := (pkeq k i0 (by omega) (by omega)).mpr c1
        refine ⟨X1, ?_, q2⟩
        rw [f_X0_countQuantities_p22, Int.toNat_natCast, Int.toNat_natCast, hz, z0', z1']
        (repeat first | (with_reducible refine ev_let ?_) | (with_reducible refine ev_rng ?_ ?_ ?_; (first | omega | (simp (disch := omega) only [zi_ui, zi_ui', zl_ui, za_ui, zb_ui, zi_ul, zl_ul, zl_ul', za_ul, zb_ul, zi_ua, zl_ua, zb_ua, za_ua, za_ua', zi_ub, zl_ub, za_ub, zb_ub, zb_ub'] <;> omega)); (first | omega | (simp (disch := omega) only [zi_ui, zi_ui', zl_ui, za_ui, zb_ui, zi_ul, zl_ul, zl_ul', za_ul, zb_ul, zi_ua, zl_ua, zb_ua, za_ua, za_ua', zi_ub, zl_ub, za_ub, zb_ub, zb_ub'] <;> omega))) | (with_reducible refine ev_ins ?_ ?_ ?_; (first | omega | (simp (disch := omega) only [zi_ui, zi_ui', zl_ui, za_ui, zb_ui, zi_ul, zl_ul, zl_ul', za_ul, zb_ul, zi_ua, zl_ua, zb_ua, za_ua, za_ua', zi_ub, zl_ub, za_ub, zb_ub, zb_ub'] <;> omega)); (first | omega | (simp (disch := omega) only [zi_ui, zi_ui', zl_ui, za_ui, zb_ui, zi_ul, zl_ul, zl_ul', za_ul, zb_ul, zi_ua, zl_ua, zb_ua, za_ua, za_ua', zi_ub, zl_ub, za_ub, zb_ub, zb_ub'] <;> omega))) | (with_reducible refine ev_if1 ?_ ?_; (first | omega | (simp (disch := omega) only [zi_ui, zi_ui', zl_ui, za_ui, zb_ui, zi_ul, zl_ul, zl_ul', za_ul, zb_ul, zi_ua, zl_ua, zb_ua, za_ua, za_ua', zi_ub, zl_ub, za_ub, zb_ub, zb_ub'] <;> omega))) | (with_reducible refine ev_if0 ?_ ?_; (first | omega | (simp (disch := omega) only [zi_ui, zi_ui', zl_ui, za_ui, zb_ui, zi_ul, zl_ul, zl_ul', za_ul, zb_ul, zi_ua, zl_ua, zb_ua, za_ua, za_ua', zi_ub, zl_ub, za_ub, zb_ub, zb_ub'] <;> omega))) | (with_reducible refine ev_rnl ?_ ?_ ?_; (first | omega | (simp (disch := omega) only [zi_ui, zi_ui', zl_ui, za_ui, zb_ui, zi_ul, zl_ul, zl_ul', za_ul, zb_ul, zi_ua, zl_ua, zb_ua, za_ua, za_ua', zi_ub, zl_ub, za_ub, zb_ub, zb_ub'] <;> omega)); (first | omega | (simp (disch := omega) only [zi_ui, zi_ui', zl_ui, za_ui, zb_ui, zi_ul, zl_ul, zl_ul', za_ul, zb_ul, zi_ua, zl_ua, zb_ua, za_ua, za_ua', zi_ub, zl_ub, za_ub, zb_ub, zb_ub'] <;> omega))) | (with_reducible refine ev_ne ?_ ?_; (first | omega | (simp (disch := omega) only [zi_ui, zi_ui', zl_ui, za_ui, zb_ui, zi_ul, zl_ul, zl_ul', za_ul, zb_ul, zi_ua, zl_ua, zb_ua, za_ua, za_ua', zi_ub, zl_ub, za_ub, zb_ub, zb_ub'] <;> omega))) | (with_reducible refine ev_01 ?_ ?_; (first | omega | (simp (disch := omega) only [zi_ui, zi_ui', zl_ui, za_ui, zb_ui, zi_ul, zl_ul, zl_ul', za_ul, zb_ul, zi_ua, zl_ua, zb_ua, za_ua, za_ua', zi_ub, zl_ub, za_ub, zb_ub, zb_ub'] <;> omega))))
        exact q1
      · have ne : ¬ pk ((CS c p q).2 k).1 ((CS c p q).2 k).2 = pk ((CS c p q).2 i0).1 ((CS c p q).2 i0).2 := fun h => c1 ((pkeq k i0 (by omega) (by omega)).mp h)
        by_cases c2 : v = 0
        · obtain ⟨X1, q1, q2⟩ := s0 (fun h => by have := ck.mp h; have : v = 1 := hold.mpr (by omega); omega)
          refine ⟨X1, ?_, q2⟩
          rw [f_X0_countQuantities_p22, Int.toNat_natCast, Int.toNat_natCast, hz, z0', z1']
          (repeat first | (with_reducible refine ev_let ?_) | (with_reducible refine ev_rng ?_ ?_ ?_; (first | omega | (simp (disch := omega) only [zi_ui, zi_ui', zl_ui, za_ui, zb_ui, zi_ul, zl_ul, zl_ul', za_ul, zb_ul, zi_ua, zl_ua, zb_ua, za_ua, za_ua', zi_ub, zl_ub, za_ub, zb_ub, zb_ub'] <;> omega)); (first | omega | (simp (disch := omega) only [zi_ui, zi_ui', zl_ui, za_ui, zb_ui, zi_ul, zl_ul, zl_ul', za_ul, zb_ul, zi_ua, zl_ua, zb_ua, za_ua, za_ua', zi_ub, zl_ub, za_ub, zb_ub, zb_ub'] <;> omega))) | (with_reducible refine ev_ins ?_ ?_ ?_; (first | omega | (simp (disch := omega) only [zi_ui, zi_ui', zl_ui, za_ui, zb_ui, zi_ul, zl_ul, zl_ul', za_ul, zb_ul, zi_ua, zl_ua, zb_ua, za_ua, za_ua', zi_ub, zl_ub, za_ub, zb_ub, zb_ub'] <;> omega)); (first | omega | (simp (disch := omega) only [zi_ui, zi_ui', zl_ui, za_ui, zb_ui, zi_ul, zl_ul, zl_ul', za_ul, zb_ul, zi_ua, zl_ua, zb_ua, za_ua, za_ua', zi_ub, zl_ub, za_ub, zb_ub, zb_ub'] <;> omega))) | (with_reducible refine ev_if1 ?_ ?_; (first | omega | (simp (disch := omega) only [zi_ui, zi_ui', zl_ui, za_ui, zb_ui, zi_ul, zl_ul, zl_ul', za_ul, zb_ul, zi_ua, zl_ua, zb_ua, za_ua, za_ua', zi_ub, zl_ub, za_ub, zb_ub, zb_ub'] <;> omega))) | (with_reducible refine ev_if0 ?_ ?_; (first | omega | (simp (disch := omega) only [zi_ui, zi_ui', zl_ui, za_ui, zb_ui, zi_ul, zl_ul, zl_ul', za_ul, zb_ul, zi_ua, zl_ua, zb_ua, za_ua, za_ua', zi_ub, zl_ub, za_ub, zb_ub, zb_ub'] <;> omega))) | (with_reducible refine ev_rnl ?_ ?_ ?_; (first | omega | (simp (disch := omega) only [zi_ui, zi_ui', zl_ui, za_ui, zb_ui, zi_ul, zl_ul, zl_ul', za_ul, zb_ul, zi_ua, zl_ua, zb_ua, za_ua, za_ua', zi_ub, zl_ub, za_ub, zb_ub, zb_ub'] <;> omega)); (first | omega | (simp (disch := omega) only [zi_ui, zi_ui', zl_ui, za_ui, zb_ui, zi_ul, zl_ul, zl_ul', za_ul, zb_ul, zi_ua, zl_ua, zb_ua, za_ua, za_ua', zi_ub, zl_ub, za_ub, zb_ub, zb_ub'] <;> omega))) | (with_reducible refine ev_ne ?_ ?_; (first | omega | (simp (disch := omega) only [zi_ui, zi_ui', zl_ui, za_ui, zb_ui, zi_ul, zl_ul, zl_ul', za_ul, zb_ul, zi_ua, zl_ua, zb_ua, za_ua, za_ua', zi_ub, zl_ub, za_ub, zb_ub, zb_ub'] <;> omega))) | (with_reducible refine ev_01 ?_ ?_; (first | omega | (simp (disch := omega) only [zi_ui, zi_ui', zl_ui, za_ui, zb_ui, zi_ul, zl_ul, zl_ul', za_ul, zb_ul, zi_ua, zl_ua, zb_ua, za_ua, za_ua', zi_ub, zl_ub, za_ub, zb_ub, zb_ub'] <;> omega))))
          exact q1
        · have hv1 := hold.mp (by omega)
          by_cases c3 : k = j0
          · obtain ⟨X1, q1, q2⟩ := s0 (fun h => by have := ck.mp h; omega)
            have e := (pkeq k j0 (by omega) (by omega)).mpr c3
            refine ⟨X1, ?_, q2⟩
            rw [f_X0_countQuantities_p22, Int.toNat_natCast, Int.toNat_natCast, hz, z0', z1']
            (repeat first | (with_reducible refine ev_let ?_) | (with_reducible refine ev_rng ?_ ?_ ?_; (first | omega | (simp (disch := omega) only [zi_ui, zi_ui', zl_ui, za_ui, zb_ui, zi_ul, zl_ul, zl_ul', za_ul, zb_ul, zi_ua, zl_ua, zb_ua, za_ua, za_ua', zi_ub, zl_ub, za_ub, zb_ub, zb_ub'] <;> omega)); (first | omega | (simp (disch := omega) only [zi_ui, zi_ui', zl_ui, za_ui, zb_ui, zi_ul, zl_ul, zl_ul', za_ul, zb_ul, zi_ua, zl_ua, zb_ua, za_ua, za_ua', zi_ub, zl_ub, za_ub, zb_ub, zb_ub'] <;> omega))) | (with_reducible refine ev_ins ?_ ?_ ?_; (first | omega | (simp (disch := omega) only [zi_ui, zi_ui', zl_ui, za_ui, zb_ui, zi_ul, zl_ul, zl_ul', za_ul, zb_ul, zi_ua, zl_ua, zb_ua, za_ua, za_ua', zi_ub, zl_ub, za_ub, zb_ub, zb_ub'] <;> omega)); (first | omega | (simp (disch := omega) only [zi_ui, zi_ui', zl_ui, za_ui, zb_ui, zi_ul, zl_ul, zl_ul', za_ul, zb_ul, zi_ua, zl_ua, zb_ua, za_ua, za_ua', zi_ub, zl_ub, za_ub, zb_ub, zb_ub'] <;> omega))) | (with_reducible refine ev_if1 ?_ ?_; (first | omega | (simp (disch := omega) only [zi_ui, zi_ui', zl_ui, za_ui, zb_ui, zi_ul, zl_ul, zl_ul', za_ul, zb_ul, zi_ua, zl_ua, zb_ua, za_ua, za_ua', zi_ub, zl_ub, za_ub, zb_ub, zb_ub'] <;> omega))) | (with_reducible refine ev_if0 ?_ ?_; (first | omega | (simp (disch := omega) only [zi_ui, zi_ui', zl_ui, za_ui, zb_ui, zi_ul, zl_ul, zl_ul', za_ul, zb_ul, zi_ua, zl_ua, zb_ua, za_ua, za_ua', zi_ub, zl_ub, za_ub, zb_ub, zb_ub'] <;> omega))) | (with_reducible refine ev_rnl ?_ ?_ ?_; (first | omega | (simp (disch := omega) only [zi_ui, zi_ui', zl_ui, za_ui, zb_ui, zi_ul, zl_ul, zl_ul', za_ul, zb_ul, zi_ua, zl_ua, zb_ua, za_ua, za_ua', zi_ub, zl_ub, za_ub, zb_ub, zb_ub'] <;> omega)); (first | omega | (simp (disch := omega) only [zi_ui, zi_ui', zl_ui, za_ui, zb_ui, zi_ul, zl_ul, zl_ul', za_ul, zb_ul, zi_ua, zl_ua, zb_ua, za_ua, za_ua', zi_ub, zl_ub, za_ub, zb_ub, zb_ub'] <;> omega))) | (with_reducible refine ev_ne ?_ ?_; (first | omega | (simp (disch := omega) only [zi_ui, zi_ui', zl_ui, za_ui, zb_ui, zi_ul, zl_ul, zl_ul', za_ul, zb_ul, zi_ua, zl_ua, zb_ua, za_ua, za_ua', zi_ub, zl_ub, za_ub, zb_ub, zb_ub'] <;> omega))) | (with_reducible refine ev_01 ?_ ?_; (first | omega | (simp (disch := omega) only [zi_ui, zi_ui', zl_ui, za_ui, zb_ui, zi_ul, zl_ul, zl_ul', za_ul, zb_ul, zi_ua, zl_ua, zb_ua, za_ua, za_ua', zi_ub, zl_ub, za_ub, zb_ub, zb_ub'] <;> omega))))
            exact q1
          · have ne2 : ¬ pk ((CS c p q).2 k).1 ((CS c p q).2 k).2 = pk ((CS c p q).2 j0).1 ((CS c p q).2 j0).2 := fun h => c3 ((pkeq k j0 (by omega) (by omega)).mp h)
            obtain ⟨X1, q1, q2⟩ := s1 (ck.mpr (by omega))
            refine ⟨X1, ?_, q2⟩
            rw [f_X0_countQuantities_p22, Int.toNat_natCast, Int.toNat_natCast, hz, z0', z1']
            (repeat first | (with_reducible refine ev_let ?_) | (with_reducible refine ev_rng ?_ ?_ ?_; (first | omega | (simp (disch := omega) only [zi_ui, zi_ui', zl_ui, za_ui, zb_ui, zi_ul, zl_ul, zl_ul', za_ul, zb_ul, zi_ua, zl_ua, zb_ua, za_ua, za_ua', zi_ub, zl_ub, za_ub, zb_ub, zb_ub'] <;> omega)); (first | omega | (simp (disch := omega) only [zi_ui, zi_ui', zl_ui, za_ui, zb_ui, zi_ul, zl_ul, zl_ul', za_ul, zb_ul, zi_ua, zl_ua, zb_ua, za_ua, za_ua', zi_ub, zl_ub, za_ub, zb_ub, zb_ub'] <;> omega))) | (with_reducible refine ev_ins ?_ ?_ ?_; (first | omega | (simp (disch := omega) only [zi_ui, zi_ui', zl_ui, za_ui, zb_ui, zi_ul, zl_ul, zl_ul', za_ul, zb_ul, zi_ua, zl_ua, zb_ua, za_ua, za_ua', zi_ub, zl_ub, za_ub, zb_ub, zb_ub'] <;> omega)); (first | omega | (simp (disch := omega) only [zi_ui, zi_ui', zl_ui, za_ui, zb_ui, zi_ul, zl_ul, zl_ul', za_ul, zb_ul, zi_ua, zl_ua, zb_ua, za_ua, za_ua', zi_ub, zl_ub, za_ub, zb_ub, zb_ub'] <;> omega))) | (with_reducible refine ev_if1 ?_ ?_; (first | omega | (simp (disch := omega) only [zi_ui, zi_ui', zl_ui, za_ui, zb_ui, zi_ul, zl_ul, zl_ul', za_ul, zb_ul, zi_ua, zl_ua, zb_ua, za_ua, za_ua', zi_ub, zl_ub, za_ub, zb_ub, zb_ub'] <;> omega))) | (with_reducible refine ev_if0 ?_ ?_; (first | omega | (simp (disch := omega) only [zi_ui, zi_ui', zl_ui, za_ui, zb_ui, zi_ul, zl_ul, zl_ul', za_ul, zb_ul, zi_ua, zl_ua, zb_ua, za_ua, za_ua', zi_ub, zl_ub, za_ub, zb_ub, zb_ub'] <;> omega))) | (with_reducible refine ev_rnl ?_ ?_ ?_; (first | omega | (simp (disch := omega) only [zi_ui, zi_ui', zl_ui, za_ui, zb_ui, zi_ul, zl_ul, zl_ul', za_ul, zb_ul, zi_ua, zl_ua, zb_ua, za_ua, za_ua', zi_ub, zl_ub, za_ub, zb_ub, zb_ub'] <;> omega)); (first | omega | (simp (disch := omega) only [zi_ui, zi_ui', zl_ui, za_ui, zb_ui, zi_ul, zl_ul, zl_ul', za_ul, zb_ul, zi_ua, zl_ua, zb_ua, za_ua, za_ua', zi_ub, zl_ub, za_ub, zb_ub, zb_ub'] <;> omega))) | (with_reducible refine ev_ne ?_ ?_; (first | omega | (simp (disch := omega) only [zi_ui, zi_ui', zl_ui, za_ui, zb_ui, zi_ul, zl_ul, zl_ul', za_ul, zb_ul, zi_ua, zl_ua, zb_ua, za_ua, za_ua', zi_ub, zl_ub, za_ub, zb_ub, zb_ub'] <;> omega))) | (with_reducible refine ev_01 ?_ ?_; (first | omega | (simp (disch := omega) only [zi_ui, zi_ui', zl_ui, za_ui, zb_ui, zi_ul, zl_ul, zl_ul', za_ul, zb_ul, zi_ua, zl_ua, zb_ua, za_ua, za_ua', zi_ub, zl_ub, za_ub, zb_ub, zb_ub'] <;> omega))))
            exact q1
theorem qall_p {c : SZ} (hg : Gd c) {p q : Nat} : ∀ (fu i : Nat) (X : SZ), RepX X (CS c p q) → StX c X p q (nf c) → i ≤ (FS c p q (nf c)).1 → (FS c p q (nf c)).1 < i + fu → QX c X p q i → Ok (f_X0_countQuantities_p10 fu X i) (fun X1 => Fr [] [17] [] [] X X1 ∧ QX c X1 p q (FS c p q (nf c)).1) := by
  have fl := (fs_ok c p q (nf c)).1
  have n2 := nf_24 hg
  have hln := CS_ln hg p q
  intro fu
  induction fu with
  | zero => intro i X hr ht h1 h2; exact absurd h2 (by omega)
  | succ fu ih =>
    intro i X hr ht h1 h2 hq
    have h10 := ht.1
    by_cases hi : i = (FS c p q (nf c)).1
    · refine ⟨X, ?_, Fr.rf _ _ _ _ X, by rw [← hi]; exact hq⟩
      rw [f_X0_countQuantities_p10]
      (repeat first | (with_reducible refine ev_let ?_) | (with_reducible refine ev_rng ?_ ?_ ?_; (first | omega | (simp (disch := omega) only [zi_ui, zi_ui', zl_ui, za_ui, zb_ui, zi_ul, zl_ul, zl_ul', za_ul, zb_ul, zi_ua, zl_ua, zb_ua, za_ua, za_ua', zi_ub, zl_ub, za_ub, zb_ub, zb_ub'] <;> omega)); (first | omega | (simp (disch := omega) only [zi_ui, zi_ui', zl_ui, za_ui, zb_ui, zi_ul, zl_ul, zl_ul', za_ul, zb_ul, zi_ua, zl_ua, zb_ua, za_ua, za_ua', zi_ub, zl_ub, za_ub, zb_ub, zb_ub'] <;> omega))) | (with_reducible refine ev_ins ?_ ?_ ?_; (first | omega | (simp (disch := omega) only [zi_ui, zi_ui', zl_ui, za_ui, zb_ui, zi_ul, zl_ul, zl_ul', za_ul, zb_ul, zi_ua, zl_ua, zb_ua, za_ua, za_ua', zi_ub, zl_ub, za_ub, zb_ub, zb_ub'] <;> omega)); (first | omega | (simp (disch := omega) only [zi_ui, zi_ui', zl_ui, za_ui, zb_ui, zi_ul, zl_ul, zl_ul', za_ul, zb_ul, zi_ua, zl_ua, zb_ua, za_ua, za_ua', zi_ub, zl_ub, za_ub, zb_ub, zb_ub'] <;> omega))) | (with_reducible refine ev_if1 ?_ ?_; (first | omega | (simp (disch := omega) only [zi_ui, zi_ui', zl_ui, za_ui, zb_ui, zi_ul, zl_ul, zl_ul', za_ul, zb_ul, zi_ua, zl_ua, zb_ua, za_ua, za_ua', zi_ub, zl_ub, za_ub, zb_ub, zb_ub'] <;> omega))) | (with_reducible refine ev_if0 ?_ ?_; (first | omega | (simp (disch := omega) only [zi_ui, zi_ui', zl_ui, za_ui, zb_ui, zi_ul, zl_ul, zl_ul', za_ul, zb_ul, zi_ua, zl_ua, zb_ua, za_ua, za_ua', zi_ub, zl_ub, za_ub, zb_ub, zb_ub'] <;> omega))) | (with_reducible refine ev_rnl ?_ ?_ ?_; (first | omega | (simp (disch := omega) only [zi_ui, zi_ui', zl_ui, za_ui, zb_ui, zi_ul, zl_ul, zl_ul', za_ul, zb_ul, zi_ua, zl_ua, zb_ua, za_ua, za_ua', zi_ub, zl_ub, za_ub, zb_ub, zb_ub'] <;> omega)); (first | omega | (simp (disch := omega) only [zi_ui, zi_ui', zl_ui, za_ui, zb_ui, zi_ul, zl_ul, zl_ul', za_ul, zb_ul, zi_ua, zl_ua, zb_ua, za_ua, za_ua', zi_ub, zl_ub, za_ub, zb_ub, zb_ub'] <;> omega))) | (with_reducible refine ev_ne ?_ ?_; (first | omega | (simp (disch := omega) only [zi_ui, zi_ui', zl_ui, za_ui, zb_ui, zi_ul, zl_ul, zl_ul', za_ul, zb_ul, zi_ua, zl_ua, zb_ua, za_ua, za_ua', zi_ub, zl_ub, za_ub, zb_ub, zb_ub'] <;> omega))) | (with_reducible refine ev_01 ?_ ?_; (first | omega | (simp (disch := omega) only [zi_ui, zi_ui', zl_ui, za_ui, zb_ui, zi_ul, zl_ul, zl_ul', za_ul, zb_ul, zi_ua, zl_ua, zb_ua, za_ua, za_ua', zi_ub, zl_ub, za_ub, zb_ub, zb_ub'] <;> omega))))
      rfl
    · have key := qrow_p hg (P := fun X1 => Fr [] [17] [] [] X X1 ∧ QX c X1 p q (FS c p q (nf c)).1) (k10 := f_X0_countQuantities_p10 fu) (show i < (FS c p q (nf c)).1 by omega) FU 0 X 0 hr ht (by omega) (by rw [fu_eq]; omega) (Or.inr ⟨rfl, fun h => absurd h.1 (by omega)⟩) (fun j hj => by rw [if_neg (by omega)]; exact hq j hj) (fun X1 F1 hq1 => by
        obtain ⟨X2, q1, q2, q3⟩ := ih (i + 1) X1 ⟨by rw [F1.1 12 (by decide)]; exact hr.1, fun k hk => by rw [F1.2.2.2 2 _ (by decide)]; exact hr.2 k hk⟩ ⟨by rw [F1.1 10 (by decide)]; exact ht.1, fun k hk => by rw [F1.2.2.2 0 _ (by decide), F1.2.2.2 1 _ (by decide)]; exact ht.2 k hk⟩ (by omega) (by omega) hq1
        exact ⟨X2, q1, F1.tr q2, q3⟩)
      obtain ⟨X1, q1, q2⟩ := key
      refine ⟨X1, ?_, q2⟩
      rw [f_X0_countQuantities_p10]
      (repeat first | (with_reducible refine ev_let ?_) | (with_reducible refine ev_rng ?_ ?_ ?_; (first | omega | (simp (disch := omega) only [zi_ui, zi_ui', zl_ui, za_ui, zb_ui, zi_ul, zl_ul, zl_ul', za_ul, zb_ul, zi_ua, zl_ua, zb_ua, za_ua, za_ua', zi_ub, zl_ub, za_ub, zb_ub, zb_ub'] <;> omega)); (first | omega | (simp (disch := omega) only [zi_ui, zi_ui', zl_ui, za_ui, zb_ui, zi_ul, zl_ul, zl_ul', za_ul, zb_ul, zi_ua, zl_ua, zb_ua, za_ua, za_ua', zi_ub, zl_ub, za_ub, zb_ub, zb_ub'] <;> omega))) | (with_reducible refine ev_ins ?_ ?_ ?_; (first | omega | (simp (disch := omega) only [zi_ui, zi_ui', zl_ui, za_ui, zb_ui, zi_ul, zl_ul, zl_ul', za_ul, zb_ul, zi_ua, zl_ua, zb_ua, za_ua, za_ua', zi_ub, zl_ub, za_ub, zb_ub, zb_ub'] <;> omega)); (first | omega | (simp (disch := omega) only [zi_ui, zi_ui', zl_ui, za_ui, zb_ui, zi_ul, zl_ul, zl_ul', za_ul, zb_ul, zi_ua, zl_ua, zb_ua, za_ua, za_ua', zi_ub, zl_ub, za_ub, zb_ub, zb_ub'] <;> omega))) | (with_reducible refine ev_if1 ?_ ?_; (first | omega | (simp (disch := omega) only [zi_ui, zi_ui', zl_ui, za_ui, zb_ui, zi_ul, zl_ul, zl_ul', za_ul, zb_ul, zi_ua, zl_ua, zb_ua, za_ua, za_ua', zi_ub, zl_ub, za_ub, zb_ub, zb_ub'] <;> omega))) | (with_reducible refine ev_if0 ?_ ?_; (first | omega | (simp (disch := omega) only [zi_ui, zi_ui', zl_ui, za_ui, zb_ui, zi_ul, zl_ul, zl_ul', za_ul, zb_ul, zi_ua, zl_ua, zb_ua, za_ua, za_ua', zi_ub, zl_ub, za_ub, zb_ub, zb_ub'] <;> omega))) | (with_reducible refine ev_rnl ?_ ?_ ?_; (first | omega | (simp (disch := omega) only [zi_ui, zi_ui', zl_ui, za_ui, zb_ui, zi_ul, zl_ul, zl_ul', za_ul, zb_ul, zi_ua, zl_ua, zb_ua, za_ua, za_ua', zi_ub, zl_ub, za_ub, zb_ub, zb_ub'] <;> omega)); (first | omega | (simp (disch := omega) only [zi_ui, zi_ui', zl_ui, za_ui, zb_ui, zi_ul, zl_ul, zl_ul', za_ul, zb_ul, zi_ua, zl_ua, zb_ua, za_ua, za_ua', zi_ub, zl_ub, za_ub, zb_ub, zb_ub'] <;> omega))) | (with_reducible refine ev_ne ?_ ?_; (first | omega | (simp (disch := omega) only [zi_ui, zi_ui', zl_ui, za_ui, zb_ui, zi_ul, zl_ul, zl_ul', za_ul, zb_ul, zi_ua, zl_ua, zb_ua, za_ua, za_ua', zi_ub, zl_ub, za_ub, zb_ub, zb_ub'] <;> omega))) | (with_reducible refine ev_01 ?_ ?_; (first | omega | (simp (disch := omega) only [zi_ui, zi_ui', zl_ui, za_ui, zb_ui, zi_ul, zl_ul, zl_ul', za_ul, zb_ul, zi_ua, zl_ua, zb_ua, za_ua, za_ua', zi_ub, zl_ub, za_ub, zb_ub, zb_ub'] <;> omega))))
      exact q1
theorem fillQ_p {v : Int} : ∀ (fu j : Nat) (X : SZ), j ≤ 50 → 50 < j + fu → (∀ i, i < j → za X 17 i = v) → Ok (f_J7_fill_quantity_p5 fu X v j 50) (fun X1 => Fr [] [17] [] [] X X1 ∧ ∀ i, i < 50 → za X1 17 i = v) := by
  intro fu
  induction fu with
  | zero => intro j X h1 h2; exact absurd h2 (by omega)
  | succ fu ih =>
    intro j X h1 h2 h3
    by_cases hj : j = 50
    · subst hj
      refine ⟨X, ?_, Fr.rf _ _ _ _ X, h3⟩
      rw [f_J7_fill_quantity_p5]
      (repeat first | (with_reducible refine ev_let ?_) | (with_reducible refine ev_rng ?_ ?_ ?_; (first | omega | (simp (disch := omega) only [zi_ui, zi_ui', zl_ui, za_ui, zb_ui, zi_ul, zl_ul, zl_ul', za_ul, zb_ul, zi_ua, zl_ua, zb_ua, za_ua, za_ua', zi_ub, zl_ub, za_ub, zb_ub, zb_ub'] <;> omega)); (first | omega | (simp (disch := omega) only [zi_ui, zi_ui', zl_ui, za_ui, zb_ui, zi_ul, zl_ul, zl_ul', za_ul, zb_ul, zi_ua, zl_ua, zb_ua, za_ua, za_ua', zi_ub, zl_ub, za_ub, zb_ub, zb_ub'] <;> omega))) | (with_reducible refine ev_ins ?_ ?_ ?_; (first | omega | (simp (disch := omega) only [zi_ui, zi_ui', zl_ui, za_ui, zb_ui, zi_ul, zl_ul, zl_ul', za_ul, zb_ul, zi_ua, zl_ua, zb_ua, za_ua, za_ua', zi_ub, zl_ub, za_ub, zb_ub, zb_ub'] <;> omega)); (first | omega | (simp (disch := omega) only [zi_ui, zi_ui', zl_ui, za_ui, zb_ui, zi_ul, zl_ul, zl_ul', za_ul, zb_ul, zi_ua, zl_ua, zb_ua, za_ua, za_ua', zi_ub, zl_ub, za_ub, zb_ub, zb_ub'] <;> omega))) | (with_reducible refine ev_if1 ?_ ?_; (first | omega | (simp (disch := omega) only [zi_ui, zi_ui', zl_ui, za_ui, zb_ui, zi_ul, zl_ul, zl_ul', za_ul, zb_ul, zi_ua, zl_ua, zb_ua, za_ua, za_ua', zi_ub, zl_ub, za_ub, zb_ub, zb_ub'] <;> omega))) | (with_reducible refine ev_if0 ?_ ?_; (first | omega | (simp (disch := omega) only [zi_ui, zi_ui', zl_ui, za_ui, zb_ui, zi_ul, zl_ul, zl_ul', za_ul, zb_ul, zi_ua, zl_ua, zb_ua, za_ua, za_ua', zi_ub, zl_ub, za_ub, zb_ub, zb_ub'] <;> omega))) | (with_reducible refine ev_rnl ?_ ?_ ?_; (first | omega | (simp (disch := omega) only [zi_ui, zi_ui', zl_ui, za_ui, zb_ui, zi_ul, zl_ul, zl_ul', za_ul, zb_ul, zi_ua, zl_ua, zb_ua, za_ua, za_ua', zi_ub, zl_ub, za_ub, zb_ub, zb_ub'] <;> omega)); (first | omega | (simp (disch := omega) only [zi_ui, zi_ui', zl_ui, za_ui, zb_ui, zi_ul, zl_ul, zl_ul', za_ul, zb_ul, zi_ua, zl_ua, zb_ua, za_ua, za_ua', zi_ub, zl_ub, za_ub, zb_ub, zb_ub'] <;> omega))) | (with_reducible refine ev_ne ?_ ?_; (first | omega | (simp (disch := omega) only [zi_ui, zi_ui', zl_ui, za_ui, zb_ui, zi_ul, zl_ul, zl_ul', za_ul, zb_ul, zi_ua, zl_ua, zb_ua, za_ua, za_ua', zi_ub, zl_ub, za_ub, zb_ub, zb_ub'] <;> omega))) | (with_reducible refine ev_01 ?_ ?_; (first | omega | (simp (disch := omega) only [zi_ui, zi_ui', zl_ui, za_ui, zb_ui, zi_ul, zl_ul, zl_ul', za_ul, zb_ul, zi_ua, zl_ua, zb_ua, za_ua, za_ua', zi_ub, zl_ub, za_ub, zb_ub, zb_ub'] <;> omega))))
      rfl
    · obtain ⟨X1, q1, q2, q3⟩ := ih (j + 1) (ua X 17 j v) (by omega) (by omega) (by
        intro i hi
        rw [za_uai]
        split
        · rfl
        · exact h3 i (by omega))
      refine ⟨X1, ?_, ((Fr.rf _ _ _ _ X).ua (by decide) _ _).tr q2, q3⟩
      rw [f_J7_fill_quantity_p5]
      (repeat first | (with_reducible refine ev_let ?_) | (with_reducible refine ev_rng ?_ ?_ ?_; (first | omega | (simp (disch := omega) only [zi_ui, zi_ui', zl_ui, za_ui, zb_ui, zi_ul, zl_ul, zl_ul', za_ul, zb_ul, zi_ua, zl_ua, zb_ua, za_ua, za_ua', zi_ub, zl_ub, za_ub, zb_ub, zb_ub'] <;> omega)); (first | omega | (simp (disch := omega) only [zi_ui, zi_ui', zl_ui, za_ui, zb_ui, zi_ul, zl_ul, zl_ul', za_ul, zb_ul, zi_ua, zl_ua, zb_ua, za_ua, za_ua', zi_ub, zl_ub, za_ub, zb_ub, zb_ub'] <;> omega))) | (with_reducible refine ev_ins ?_ ?_ ?_; (first | omega | (simp (disch := omega) only [zi_ui, zi_ui', zl_ui, za_ui, zb_ui, zi_ul, zl_ul, zl_ul', za_ul, zb_ul, zi_ua, zl_ua, zb_ua, za_ua, za_ua', zi_ub, zl_ub, za_ub, zb_ub, zb_ub'] <;> omega)); (first | omega | (simp (disch := omega) only [zi_ui, zi_ui', zl_ui, za_ui, zb_ui, zi_ul, zl_ul, zl_ul', za_ul, zb_ul, zi_ua, zl_ua, zb_ua, za_ua, za_ua', zi_ub, zl_ub, za_ub, zb_ub, zb_ub'] <;> omega))) | (with_reducible refine ev_if1 ?_ ?_; (first | omega | (simp (disch := omega) only [zi_ui, zi_ui', zl_ui, za_ui, zb_ui, zi_ul, zl_ul, zl_ul', za_ul, zb_ul, zi_ua, zl_ua, zb_ua, za_ua, za_ua', zi_ub, zl_ub, za_ub, zb_ub, zb_ub'] <;> omega))) | (with_reducible refine ev_if0 ?_ ?_; (first | omega | (simp (disch := omega) only [zi_ui, zi_ui', zl_ui, za_ui, zb_ui, zi_ul, zl_ul, zl_ul', za_ul, zb_ul, zi_ua, zl_ua, zb_ua, za_ua, za_ua', zi_ub, zl_ub, za_ub, zb_ub, zb_ub'] <;> omega))) | (with_reducible refine ev_rnl ?_ ?_ ?_; (first | omega | (simp (disch := omega) only [zi_ui, zi_ui', zl_ui, za_ui, zb_ui, zi_ul, zl_ul, zl_ul', za_ul, zb_ul, zi_ua, zl_ua, zb_ua, za_ua, za_ua', zi_ub, zl_ub, za_ub, zb_ub, zb_ub'] <;> omega)); (first | omega | (simp (disch := omega) only [zi_ui, zi_ui', zl_ui, za_ui, zb_ui, zi_ul, zl_ul, zl_ul', za_ul, zb_ul, zi_ua, zl_ua, zb_ua, za_ua, za_ua', zi_ub, zl_ub, za_ub, zb_ub, zb_ub'] <;> omega))) | (with_reducible refine ev_ne ?_ ?_; (first | omega | (simp (disch := omega) only [zi_ui, zi_ui', zl_ui, za_ui, zb_ui, zi_ul, zl_ul, zl_ul', za_ul, zb_ul, zi_ua, zl_ua, zb_ua, za_ua, za_ua', zi_ub, zl_ub, za_ub, zb_ub, zb_ub'] <;> omega))) | (with_reducible refine ev_01 ?_ ?_; (first | omega | (simp (disch := omega) only [zi_ui, zi_ui', zl_ui, za_ui, zb_ui, zi_ul, zl_ul, zl_ul', za_ul, zb_ul, zi_ua, zl_ua, zb_ua, za_ua, za_ua', zi_ub, zl_ub, za_ub, zb_ub, zb_ub'] <;> omega))))
      exact q1
theorem quant_e {c X : SZ} (hg : Gd c) {p q : Nat} (hr : RepX X (CS c p q)) (ht : StX c X p q (nf c)) : Ok (f_X0_countQuantities X) (fun X1 => Fr [] [17] [] [] X X1 ∧ ∀ k, k + 1 < (CS c p q).1 → za X1 17 k = Q c p q k) := by
  have fl := (fs_ok c p q (nf c)).1
  have n2 := nf_24 hg
  have hln := CS_ln hg p q
  obtain ⟨X1, a1, F1, a3⟩ := fillQ_p (v := 0) FU 0 X (by omega) (by rw [fu_eq]; omega) (fun i h => absurd h (by omega))
  obtain ⟨X2, b1, b2, b3⟩ := qall_p hg (p := p) (q := q) FU 0 X1 ⟨by rw [F1.1 12 (by decide)]; exact hr.1, fun k hk => by rw [F1.2.2.2 2 _ (by decide)]; exact hr.2 k hk⟩ ⟨by rw [F1.1 10 (by decide)]; exact ht.1, fun k hk => by rw [F1.2.2.2 0 _ (by decide), F1.2.2.2 1 _ (by decide)]; exact ht.2 k hk⟩ (by omega) (by rw [fu_eq]; omega) (fun k hk => by rw [a3 k (by omega)]; rfl)
  refine ⟨X2, ?_, F1.tr b2, fun k hk => ?_⟩
  · unfold f_X0_countQuantities f_J7_fill_quantity
    have a1' : f_J7_fill_quantity_p5 FU X 0 0 50 = some X1 := a1
    (repeat first | (with_reducible refine ev_let ?_) | (with_reducible refine ev_ob2 (a1') ?_) | (with_reducible refine ev_ob1 (a1') ?_) | (with_reducible refine ev_rng ?_ ?_ ?_; (first | omega | (simp (disch := omega) only [zi_ui, zi_ui', zl_ui, za_ui, zb_ui, zi_ul, zl_ul, zl_ul', za_ul, zb_ul, zi_ua, zl_ua, zb_ua, za_ua, za_ua', zi_ub, zl_ub, za_ub, zb_ub, zb_ub'] <;> omega)); (first | omega | (simp (disch := omega) only [zi_ui, zi_ui', zl_ui, za_ui, zb_ui, zi_ul, zl_ul, zl_ul', za_ul, zb_ul, zi_ua, zl_ua, zb_ua, za_ua, za_ua', zi_ub, zl_ub, za_ub, zb_ub, zb_ub'] <;> omega))) | (with_reducible refine ev_ins ?_ ?_ ?_; (first | omega | (simp (disch := omega) only [zi_ui, zi_ui', zl_ui, za_ui, zb_ui, zi_ul, zl_ul, zl_ul', za_ul, zb_ul, zi_ua, zl_ua, zb_ua, za_ua, za_ua', zi_ub, zl_ub, za_ub, zb_ub, zb_ub'] <;> omega)); (first | omega | (simp (disch := omega) only [zi_ui, zi_ui', zl_ui, za_ui, zb_ui, zi_ul, zl_ul, zl_ul', za_ul, zb_ul, zi_ua, zl_ua, zb_ua, za_ua, za_ua', zi_ub, zl_ub, za_ub, zb_ub, zb_ub'] <;> omega))) | (with_reducible refine ev_if1 ?_ ?_; (first | omega | (simp (disch := omega) only [zi_ui, zi_ui', zl_ui, za_ui, zb_ui, zi_ul, zl_ul, zl_ul', za_ul, zb_ul, zi_ua, zl_ua, zb_ua, za_ua, za_ua', zi_ub, zl_ub, za_ub, zb_ub, zb_ub'] <;> omega))) | (with_reducible refine ev_if0 ?_ ?_; (first | omega | (simp (disch := omega) only [zi_ui, zi_ui', zl_ui, za_ui, zb_ui, zi_ul, zl_ul, zl_ul', za_ul, zb_ul, zi_ua, zl_ua, zb_ua, za_ua, za_ua', zi_ub, zl_ub, za_ub, zb_ub, zb_ub'] <;> omega))) | (with_reducible refine ev_rnl ?_ ?_ ?_; (first | omega | (simp (disch := omega) only [zi_ui, zi_ui', zl_ui, za_ui, zb_ui, zi_ul, zl_ul, zl_ul', za_ul, zb_ul, zi_ua, zl_ua, zb_ua, za_ua, za_ua', zi_ub, zl_ub, za_ub, zb_ub, zb_ub'] <;> omega)); (first | omega | (simp (disch := omega) only [zi_ui, zi_ui', zl_ui, za_ui, zb_ui, zi_ul, zl_ul, zl_ul', za_ul, zb_ul, zi_ua, zl_ua, zb_ua, za_ua, za_ua', zi_ub, zl_ub, za_ub, zb_ub, zb_ub'] <;> omega))) | (with_reducible refine ev_ne ?_ ?_; (first | omega | (simp (disch := omega) only [zi_ui, zi_ui', zl_ui, za_ui, zb_ui, zi_ul, zl_ul, zl_ul', za_ul, zb_ul, zi_ua, zl_ua, zb_ua, za_ua, za_ua', zi_ub, zl_ub, za_ub, zb_ub, zb_ub'] <;> omega))) | (with_reducible refine ev_01 ?_ ?_; (first | omega | (simp (disch := omega) only [zi_ui, zi_ui', zl_ui, za_ui, zb_ui, zi_ul, zl_ul, zl_ul', za_ul, zb_ul, zi_ua, zl_ua, zb_ua, za_ua, za_ua', zi_ub, zl_ub, za_ub, zb_ub, zb_ub'] <;> omega))))
    exact b1
  · rw [b3 k hk, qi_qn]; rfl
/-- the pieces that nothing hides, as bits -/
noncomputable def vm (c : SZ) (p q : Nat) : Nat → Nat
  | 0 => 0
  | k + 1 => if Q c p q k = 0 then 2 ^ k + vm c p q k else vm c p q k
theorem vm_lt (c : SZ) (p q : Nat) : ∀ k, vm c p q k < 2 ^ k
  | 0 => (by decide : 0 < 2 ^ 0)
  | k + 1 => by
    have := vm_lt c p q k
    rw [vm, Nat.pow_succ]; split <;> omega
theorem vm_bit (c : SZ) (p q : Nat) : ∀ k j, (vm c p q k).testBit j = decide (j < k ∧ Q c p q j = 0)
  | 0, j => by simp [vm]
  | k + 1, j => by
    have ih := vm_bit c p q k j
    have hl := vm_lt c p q k
    rw [vm]
    by_cases hq : Q c p q k = 0
    · rw [if_pos hq]
      rcases Nat.lt_trichotomy j k with l | l | l
      · rw [Nat.testBit_two_pow_add_gt l, ih]
        exact decide_eq_decide.mpr ⟨fun h => ⟨by omega, h.2⟩, fun h => ⟨by omega, h.2⟩⟩
      · subst l
        rw [Nat.testBit_two_pow_add_eq, Nat.testBit_lt_two_pow hl]
        simp [hq]
      · rw [Nat.testBit_lt_two_pow (Nat.lt_of_lt_of_le (show 2 ^ k + vm c p q k < 2 ^ (k + 1) by rw [Nat.pow_succ]; omega) (Nat.pow_le_pow_right (by omega) (by omega)))]
        symm
        exact decide_eq_false (by omega)
    · rw [if_neg hq, ih]
      exact decide_eq_decide.mpr ⟨fun h => ⟨by omega, h.2⟩, fun h => ⟨by
        by_cases hjk : j = k
        · rw [hjk] at h; exact absurd h.2 hq
        · omega, h.2⟩⟩
theorem bare_p {c X : SZ} (hg : Gd c) {p q : Nat} (hr : RepX X (CS c p q)) (hq : ∀ k, k + 1 < (CS c p q).1 → za X 17 k = Q c p q k) : ∀ (fu k : Nat), k + 1 ≤ (CS c p q).1 → (CS c p q).1 < k + 1 + fu → f_X0_bare_p4 fu X (vm c p q k) k = some (X, (vm c p q ((CS c p q).1 - 1) : Int)) := by
  have hln := CS_ln hg p q
  have h12 := hr.1
  intro fu
  induction fu with
  | zero => intro k h1 h2; exact absurd h2 (by omega)
  | succ fu ih =>
    intro k h1 h2
    by_cases hk : k + 1 = (CS c p q).1
    · rw [f_X0_bare_p4, show (CS c p q).1 - 1 = k by omega]
      (repeat first | (with_reducible refine ev_let ?_) | (with_reducible refine ev_rng ?_ ?_ ?_; (first | omega | (simp (disch := omega) only [zi_ui, zi_ui', zl_ui, za_ui, zb_ui, zi_ul, zl_ul, zl_ul', za_ul, zb_ul, zi_ua, zl_ua, zb_ua, za_ua, za_ua', zi_ub, zl_ub, za_ub, zb_ub, zb_ub'] <;> omega)); (first | omega | (simp (disch := omega) only [zi_ui, zi_ui', zl_ui, za_ui, zb_ui, zi_ul, zl_ul, zl_ul', za_ul, zb_ul, zi_ua, zl_ua, zb_ua, za_ua, za_ua', zi_ub, zl_ub, za_ub, zb_ub, zb_ub'] <;> omega))) | (with_reducible refine ev_ins ?_ ?_ ?_; (first | omega | (simp (disch := omega) only [zi_ui, zi_ui', zl_ui, za_ui, zb_ui, zi_ul, zl_ul, zl_ul', za_ul, zb_ul, zi_ua, zl_ua, zb_ua, za_ua, za_ua', zi_ub, zl_ub, za_ub, zb_ub, zb_ub'] <;> omega)); (first | omega | (simp (disch := omega) only [zi_ui, zi_ui', zl_ui, za_ui, zb_ui, zi_ul, zl_ul, zl_ul', za_ul, zb_ul, zi_ua, zl_ua, zb_ua, za_ua, za_ua', zi_ub, zl_ub, za_ub, zb_ub, zb_ub'] <;> omega))) | (with_reducible refine ev_if1 ?_ ?_; (first | omega | (simp (disch := omega) only [zi_ui, zi_ui', zl_ui, za_ui, zb_ui, zi_ul, zl_ul, zl_ul', za_ul, zb_ul, zi_ua, zl_ua, zb_ua, za_ua, za_ua', zi_ub, zl_ub, za_ub, zb_ub, zb_ub'] <;> omega))) | (with_reducible refine ev_if0 ?_ ?_; (first | omega | (simp (disch := omega) only [zi_ui, zi_ui', zl_ui, za_ui, zb_ui, zi_ul, zl_ul, zl_ul', za_ul, zb_ul, zi_ua, zl_ua, zb_ua, za_ua, za_ua', zi_ub, zl_ub, za_ub, zb_ub, zb_ub'] <;> omega))) | (with_reducible refine ev_rnl ?_ ?_ ?_; (first | omega | (simp (disch := omega) only [zi_ui, zi_ui', zl_ui, za_ui, zb_ui, zi_ul, zl_ul, zl_ul', za_ul, zb_ul, zi_ua, zl_ua, zb_ua, za_ua, za_ua', zi_ub, zl_ub, za_ub, zb_ub, zb_ub'] <;> omega)); (first | omega | (simp (disch := omega) only [zi_ui, zi_ui', zl_ui, za_ui, zb_ui, zi_ul, zl_ul, zl_ul', za_ul, zb_ul, zi_ua, zl_ua, zb_ua, za_ua, za_ua', zi_ub, zl_ub, za_ub, zb_ub, zb_ub'] <;> omega))) | (with_reducible refine ev_ne ?_ ?_; (first | omega | (simp (disch := omega) only [zi_ui, zi_ui', zl_ui, za_ui, zb_ui, zi_ul, zl_ul, zl_ul', za_ul, zb_ul, zi_ua, zl_ua, zb_ua, za_ua, za_ua', zi_ub, zl_ub, za_ub, zb_ub, zb_ub'] <;> omega))) | (with_reducible refine ev_01 ?_ ?_; (first | omega | (simp (disch := omega) only [zi_ui, zi_ui', zl_ui, za_ui, zb_ui, zi_ul, zl_ul, zl_ul', za_ul, zb_ul, zi_ua, zl_ua, zb_ua, za_ua, za_ua', zi_ub, zl_ub, za_ub, zb_ub, zb_ub'] <;> omega))))
      rfl
    · have ih2 := ih (k + 1) (by omega) (by omega)
      have hz := hq k (by omega)
      have qb := Q_le hg p q k
      have hlt := vm_lt c p q k
      have h50 : (2 : Nat) ^ k ≤ 2 ^ 50 := Nat.pow_le_pow_right (by omega) (by omega)
      rw [f_X0_bare_p4, Int.toNat_natCast, hz]
      rw [vm] at ih2
      by_cases c1 : Q c p q k = 0
      · rw [if_pos c1] at ih2
        have e1 : zlshl 1 (k : Int) = ((1 * 2 ^ k : Nat) : Int) := zlshl_nat (a := 1) (k := k) (by omega) (by omega) (by omega)
        have e2 : zlor (vm c p q k : Int) ((1 * 2 ^ k : Nat) : Int) = ((2 ^ k + vm c p q k : Nat) : Int) := by
          rw [zlor_nat (by omega) (by omega), Nat.or_comm]
          have := Nat.shiftLeft_add_eq_or_of_lt hlt 1
          rw [Nat.shiftLeft_eq] at this
          rw [← this, Nat.one_mul]
        (repeat first | (with_reducible refine ev_let ?_) | (with_reducible refine ev_rng ?_ ?_ ?_; (first | omega | (simp (disch := omega) only [zi_ui, zi_ui', zl_ui, za_ui, zb_ui, zi_ul, zl_ul, zl_ul', za_ul, zb_ul, zi_ua, zl_ua, zb_ua, za_ua, za_ua', zi_ub, zl_ub, za_ub, zb_ub, zb_ub'] <;> omega)); (first | omega | (simp (disch := omega) only [zi_ui, zi_ui', zl_ui, za_ui, zb_ui, zi_ul, zl_ul, zl_ul', za_ul, zb_ul, zi_ua, zl_ua, zb_ua, za_ua, za_ua', zi_ub, zl_ub, za_ub, zb_ub, zb_ub'] <;> omega))) | (with_reducible refine ev_ins ?_ ?_ ?_; (first | omega | (simp (disch := omega) only [zi_ui, zi_ui', zl_ui, za_ui, zb_ui, zi_ul, zl_ul, zl_ul', za_ul, zb_ul, zi_ua, zl_ua, zb_ua, za_ua, za_ua', zi_ub, zl_ub, za_ub, zb_ub, zb_ub'] <;> omega)); (first | omega | (simp (disch := omega) only [zi_ui, zi_ui', zl_ui, za_ui, zb_ui, zi_ul, zl_ul, zl_ul', za_ul, zb_ul, zi_ua, zl_ua, zb_ua, za_ua, za_ua', zi_ub, zl_ub, za_ub, zb_ub, zb_ub'] <;> omega))) | (with_reducible refine ev_if1 ?_ ?_; (first | omega | (simp (disch := omega) only [zi_ui, zi_ui', zl_ui, za_ui, zb_ui, zi_ul, zl_ul, zl_ul', za_ul, zb_ul, zi_ua, zl_ua, zb_ua, za_ua, za_ua', zi_ub, zl_ub, za_ub, zb_ub, zb_ub'] <;> omega))) | (with_reducible refine ev_if0 ?_ ?_; (first | omega | (simp (disch := omega) only [zi_ui, zi_ui', zl_ui, za_ui, zb_ui, zi_ul, zl_ul, zl_ul', za_ul, zb_ul, zi_ua, zl_ua, zb_ua, za_ua, za_ua', zi_ub, zl_ub, za_ub, zb_ub, zb_ub'] <;> omega))) | (with_reducible refine ev_rnl ?_ ?_ ?_; (first | omega | (simp (disch := omega) only [zi_ui, zi_ui', zl_ui, za_ui, zb_ui, zi_ul, zl_ul, zl_ul', za_ul, zb_ul, zi_ua, zl_ua, zb_ua, za_ua, za_ua', zi_ub, zl_ub, za_ub, zb_ub, zb_ub'] <;> omega)); (first | omega | (simp (disch := omega) only [zi_ui, zi_ui', zl_ui, za_ui, zb_ui, zi_ul, zl_ul, zl_ul', za_ul, zb_ul, zi_ua, zl_ua, zb_ua, za_ua, za_ua', zi_ub, zl_ub, za_ub, zb_ub, zb_ub'] <;> omega))) | (with_reducible refine ev_ne ?_ ?_; (first | omega | (simp (disch := omega) only [zi_ui, zi_ui', zl_ui, za_ui, zb_ui, zi_ul, zl_ul, zl_ul', za_ul, zb_ul, zi_ua, zl_ua, zb_ua, za_ua, za_ua', zi_ub, zl_ub, za_ub, zb_ub, zb_ub'] <;> omega))) | (with_reducible refine ev_01 ?_ ?_; (first | omega | (simp (disch := omega) only [zi_ui, zi_ui', zl_ui, za_ui, zb_ui, zi_ul, zl_ul, zl_ul', za_ul, zb_ul, zi_ua, zl_ua, zb_ua, za_ua, za_ua', zi_ub, zl_ub, za_ub, zb_ub, zb_ub'] <;> omega))))
        rw [e1, e2]
        exact ih2
      · rw [if_neg c1] at ih2
        (repeat first | (with_reducible refine ev_let ?_) | (with_reducible refine ev_rng ?_ ?_ ?_; (first | omega | (simp (disch := omega) only [zi_ui, zi_ui', zl_ui, za_ui, zb_ui, zi_ul, zl_ul, zl_ul', za_ul, zb_ul, zi_ua, zl_ua, zb_ua, za_ua, za_ua', zi_ub, zl_ub, za_ub, zb_ub, zb_ub'] <;> omega)); (first | omega | (simp (disch := omega) only [zi_ui, zi_ui', zl_ui, za_ui, zb_ui, zi_ul, zl_ul, zl_ul', za_ul, zb_ul, zi_ua, zl_ua, zb_ua, za_ua, za_ua', zi_ub, zl_ub, za_ub, zb_ub, zb_ub'] <;> omega))) | (with_reducible refine ev_ins ?_ ?_ ?_; (first | omega | (simp (disch := omega) only [zi_ui, zi_ui', zl_ui, za_ui, zb_ui, zi_ul, zl_ul, zl_ul', za_ul, zb_ul, zi_ua, zl_ua, zb_ua, za_ua, za_ua', zi_ub, zl_ub, za_ub, zb_ub, zb_ub'] <;> omega)); (first | omega | (simp (disch := omega) only [zi_ui, zi_ui', zl_ui, za_ui, zb_ui, zi_ul, zl_ul, zl_ul', za_ul, zb_ul, zi_ua, zl_ua, zb_ua, za_ua, za_ua', zi_ub, zl_ub, za_ub, zb_ub, zb_ub'] <;> omega))) | (with_reducible refine ev_if1 ?_ ?_; (first | omega | (simp (disch := omega) only [zi_ui, zi_ui', zl_ui, za_ui, zb_ui, zi_ul, zl_ul, zl_ul', za_ul, zb_ul, zi_ua, zl_ua, zb_ua, za_ua, za_ua', zi_ub, zl_ub, za_ub, zb_ub, zb_ub'] <;> omega))) | (with_reducible refine ev_if0 ?_ ?_; (first | omega | (simp (disch := omega) only [zi_ui, zi_ui', zl_ui, za_ui, zb_ui, zi_ul, zl_ul, zl_ul', za_ul, zb_ul, zi_ua, zl_ua, zb_ua, za_ua, za_ua', zi_ub, zl_ub, za_ub, zb_ub, zb_ub'] <;> omega))) | (with_reducible refine ev_rnl ?_ ?_ ?_; (first | omega | (simp (disch := omega) only [zi_ui, zi_ui', zl_ui, za_ui, zb_ui, zi_ul, zl_ul, zl_ul', za_ul, zb_ul, zi_ua, zl_ua, zb_ua, za_ua, za_ua', zi_ub, zl_ub, za_ub, zb_ub, zb_ub'] <;> omega)); (first | omega | (simp (disch := omega) only [zi_ui, zi_ui', zl_ui, za_ui, zb_ui, zi_ul, zl_ul, zl_ul', za_ul, zb_ul, zi_ua, zl_ua, zb_ua, za_ua, za_ua', zi_ub, zl_ub, za_ub, zb_ub, zb_ub'] <;> omega))) | (with_reducible refine ev_ne ?_ ?_; (first | omega | (simp (disch := omega) only [zi_ui, zi_ui', zl_ui, za_ui, zb_ui, zi_ul, zl_ul, zl_ul', za_ul, zb_ul, zi_ua, zl_ua, zb_ua, za_ua, za_ua', zi_ub, zl_ub, za_ub, zb_ub, zb_ub'] <;> omega))) | (with_reducible refine ev_01 ?_ ?_; (first | omega | (simp (disch := omega) only [zi_ui, zi_ui', zl_ui, za_ui, zb_ui, zi_ul, zl_ul, zl_ul', za_ul, zb_ul, zi_ua, zl_ua, zb_ua, za_ua, za_ua', zi_ub, zl_ub, za_ub, zb_ub, zb_ub'] <;> omega))))
        exact ih2
noncomputable def VM (c : SZ) (p q : Nat) : Nat := if srt c p q = 2 then 0 else vm c p q ((CS c p q).1 - 1)
theorem VM_lt {c : SZ} (hg : Gd c) (p q : Nat) : VM c p q < 2 ^ 49 := by
  have hln := CS_ln hg p q
  have := vm_lt c p q ((CS c p q).1 - 1)
  have h2 : (2 : Nat) ^ ((CS c p q).1 - 1) ≤ 2 ^ 49 := Nat.pow_le_pow_right (by omega) (by omega)
  unfold VM; split <;> omega
/-- what is kept of one edge -/
def CutX (c X : SZ) (e : Nat) : Prop := zi X 11 = e ∧ RepX X (CS c ((ES c).2.1 e) ((ES c).2.2 e)) ∧ (∀ k, k + 1 < (CS c ((ES c).2.1 e) ((ES c).2.2 e)).1 → za X 17 k = Q c ((ES c).2.1 e) ((ES c).2.2 e) k) ∧ zl X 0 = VM c ((ES c).2.1 e) ((ES c).2.2 e)
theorem EdgesX.fr {c X X1 : SZ} (h : EdgesX c X) {li la ll lb : List Nat} (hf : Fr li la ll lb X X1) (h9 : 9 ∉ li) (ha : ∀ k, (k = 11 ∨ k = 13 ∨ k = 14 ∨ k = 15 ∨ k = 16) → k ∉ la) : EdgesX c X1 := ⟨h.1.fr hf h9 (fun k hk => ha k (by omega)), fun e he => by rw [hf.2.1 16 _ (ha 16 (by omega))]; exact h.2 e he⟩
theorem load_p {c : SZ} (hg : Gd c) {e : Nat} (he : e < (ES c).1) : ∀ (fu f : Nat) (X : SZ), Sight c X → EdgesX c X → f ≤ nf c → nf c < f + fu → RepX X (CutS c ((ES c).2.1 e) ((ES c).2.2 e) f) → StX c X ((ES c).2.1 e) ((ES c).2.2 e) f → Ok (f_X0_load_p38 fu X e f) (fun X1 => Fr [10, 11, 12] [17] [0] [0, 1, 2] X X1 ∧ CutX c X1 e) := by
  have n1 := nf_i hg
  have n2 := nf_24 hg
  have n3 := np_i hg
  have n4 := np_16 hg
  have h80 := es_80 hg
  obtain ⟨o1, o2, o3, o4⟩ := (es_ord c).1 e he
  intro fu
  induction fu with
  | zero => intro f X hs hE h1 h2; exact absurd h2 (by omega)
  | succ fu ih =>
    intro f X hs hE h1 h2 hr ht
    have h8 := hs.1
    by_cases hf : f = nf c
    · subst hf
      obtain ⟨X1, a1, F1, a3⟩ := quant_e hg hr ht
      have hr1 : RepX X1 (CS c ((ES c).2.1 e) ((ES c).2.2 e)) := ⟨by rw [F1.1 12 (by decide)]; exact hr.1, fun k hk => by rw [F1.2.2.2 2 _ (by decide)]; exact hr.2 k hk⟩
      have hln := CS_ln hg ((ES c).2.1 e) ((ES c).2.2 e)
      have b := bare_p hg hr1 a3 FU 0 (by omega) (by rw [fu_eq]; omega)
      have hsrt := (hE.fr F1 (by simp) (by intro k hk; simp; omega)).2 e he
      have sb := srt_bd c ((ES c).2.1 e) ((ES c).2.2 e)
      by_cases c2 : srt c ((ES c).2.1 e) ((ES c).2.2 e) = 2
      · have F2 : Fr [10, 11, 12] [17] [0] [0, 1, 2] X (ui (ul X1 0 0) 11 e) := ((F1.mono (by simp) (by simp) (by simp) (by simp)).ul (by decide) _).ui (by decide) _
        refine ⟨_, ?_, F2, by rw [zi_ui], ⟨by simp (disch := omega) only [zi_ui, zi_ui', zl_ui, za_ui, zb_ui, zi_ul, zl_ul, zl_ul', za_ul, zb_ul, zi_ua, zl_ua, zb_ua, za_ua, za_ua', zi_ub, zl_ub, za_ub, zb_ub, zb_ub']; exact hr1.1, fun k hk => by simp (disch := omega) only [zi_ui, zi_ui', zl_ui, za_ui, zb_ui, zi_ul, zl_ul, zl_ul', za_ul, zb_ul, zi_ua, zl_ua, zb_ua, za_ua, za_ua', zi_ub, zl_ub, za_ub, zb_ub, zb_ub']; exact hr1.2 k hk⟩, fun k hk => by simp (disch := omega) only [zi_ui, zi_ui', zl_ui, za_ui, zb_ui, zi_ul, zl_ul, zl_ul', za_ul, zb_ul, zi_ua, zl_ua, zb_ua, za_ua, za_ua', zi_ub, zl_ub, za_ub, zb_ub, zb_ub']; exact a3 k hk, ?_⟩
        · rw [f_X0_load_p38]
          have c3 : za X1 16 e = 2 := by rw [hsrt]; exact c2
          (repeat first | (with_reducible refine ev_let ?_) | (with_reducible refine ev_ob2 (a1) ?_) | (with_reducible refine ev_ob1 (a1) ?_) | (with_reducible refine ev_rng ?_ ?_ ?_; (first | omega | (simp (disch := omega) only [zi_ui, zi_ui', zl_ui, za_ui, zb_ui, zi_ul, zl_ul, zl_ul', za_ul, zb_ul, zi_ua, zl_ua, zb_ua, za_ua, za_ua', zi_ub, zl_ub, za_ub, zb_ub, zb_ub', Int.toNat_natCast] <;> omega)); (first | omega | (simp (disch := omega) only [zi_ui, zi_ui', zl_ui, za_ui, zb_ui, zi_ul, zl_ul, zl_ul', za_ul, zb_ul, zi_ua, zl_ua, zb_ua, za_ua, za_ua', zi_ub, zl_ub, za_ub, zb_ub, zb_ub', Int.toNat_natCast] <;> omega))) | (with_reducible refine ev_ins ?_ ?_ ?_; (first | omega | (simp (disch := omega) only [zi_ui, zi_ui', zl_ui, za_ui, zb_ui, zi_ul, zl_ul, zl_ul', za_ul, zb_ul, zi_ua, zl_ua, zb_ua, za_ua, za_ua', zi_ub, zl_ub, za_ub, zb_ub, zb_ub', Int.toNat_natCast] <;> omega)); (first | omega | (simp (disch := omega) only [zi_ui, zi_ui', zl_ui, za_ui, zb_ui, zi_ul, zl_ul, zl_ul', za_ul, zb_ul, zi_ua, zl_ua, zb_ua, za_ua, za_ua', zi_ub, zl_ub, za_ub, zb_ub, zb_ub', Int.toNat_natCast] <;> omega))) | (with_reducible refine ev_if1 ?_ ?_; (first | omega | (simp (disch := omega) only [zi_ui, zi_ui', zl_ui, za_ui, zb_ui, zi_ul, zl_ul, zl_ul', za_ul, zb_ul, zi_ua, zl_ua, zb_ua, za_ua, za_ua', zi_ub, zl_ub, za_ub, zb_ub, zb_ub', Int.toNat_natCast] <;> omega))) | (with_reducible refine ev_if0 ?_ ?_; (first | omega | (simp (disch := omega) only [zi_ui, zi_ui', zl_ui, za_ui, zb_ui, zi_ul, zl_ul, zl_ul', za_ul, zb_ul, zi_ua, zl_ua, zb_ua, za_ua, za_ua', zi_ub, zl_ub, za_ub, zb_ub, zb_ub', Int.toNat_natCast] <;> omega))) | (with_reducible refine ev_rnl ?_ ?_ ?_; (first | omega | (simp (disch := omega) only [zi_ui, zi_ui', zl_ui, za_ui, zb_ui, zi_ul, zl_ul, zl_ul', za_ul, zb_ul, zi_ua, zl_ua, zb_ua, za_ua, za_ua', zi_ub, zl_ub, za_ub, zb_ub, zb_ub', Int.toNat_natCast] <;> omega)); (first | omega | (simp (disch := omega) only [zi_ui, zi_ui', zl_ui, za_ui, zb_ui, zi_ul, zl_ul, zl_ul', za_ul, zb_ul, zi_ua, zl_ua, zb_ua, za_ua, za_ua', zi_ub, zl_ub, za_ub, zb_ub, zb_ub', Int.toNat_natCast] <;> omega))) | (with_reducible refine ev_ne ?_ ?_; (first | omega | (simp (disch := omega) only [zi_ui, zi_ui', zl_ui, za_ui, zb_ui, zi_ul, zl_ul, zl_ul', za_ul, zb_ul, zi_ua, zl_ua, zb_ua, za_ua, za_ua', zi_ub, zl_ub, za_ub, zb_ub, zb_ub', Int.toNat_natCast] <;> omega))) | (with_reducible refine ev_01 ?_ ?_; (first | omega | (simp (disch := omega) only [zi_ui, zi_ui', zl_ui, za_ui, zb_ui, zi_ul, zl_ul, zl_ul', za_ul, zb_ul, zi_ua, zl_ua, zb_ua, za_ua, za_ua', zi_ub, zl_ub, za_ub, zb_ub, zb_ub', Int.toNat_natCast] <;> omega))))
          rfl
        · rw [zl_ui, zl_ul, VM, if_pos c2]; rfl
      · have F2 : Fr [10, 11, 12] [17] [0] [0, 1, 2] X (ui (ul X1 0 (vm c ((ES c).2.1 e) ((ES c).2.2 e) ((CS c ((ES c).2.1 e) ((ES c).2.2 e)).1 - 1))) 11 e) := ((F1.mono (by simp) (by simp) (by simp) (by simp)).ul (by decide) _).ui (by decide) _
        refine ⟨_, ?_, F2, by rw [zi_ui], ⟨by simp (disch := omega) only [zi_ui, zi_ui', zl_ui, za_ui, zb_ui, zi_ul, zl_ul, zl_ul', za_ul, zb_ul, zi_ua, zl_ua, zb_ua, za_ua, za_ua', zi_ub, zl_ub, za_ub, zb_ub, zb_ub']; exact hr1.1, fun k hk => by simp (disch := omega) only [zi_ui, zi_ui', zl_ui, za_ui, zb_ui, zi_ul, zl_ul, zl_ul', za_ul, zb_ul, zi_ua, zl_ua, zb_ua, za_ua, za_ua', zi_ub, zl_ub, za_ub, zb_ub, zb_ub']; exact hr1.2 k hk⟩, fun k hk => by simp (disch := omega) only [zi_ui, zi_ui', zl_ui, za_ui, zb_ui, zi_ul, zl_ul, zl_ul', za_ul, zb_ul, zi_ua, zl_ua, zb_ua, za_ua, za_ua', zi_ub, zl_ub, za_ub, zb_ub, zb_ub']; exact a3 k hk, ?_⟩
        · rw [f_X0_load_p38]
          have c3 : ¬ za X1 16 e = 2 := by rw [hsrt]; exact c2
          have c4 : 0 ≤ za X1 16 e ∧ za X1 16 e ≤ 5 := by rw [hsrt]; exact sb
          have b' : f_X0_bare X1 = some (X1, (vm c ((ES c).2.1 e) ((ES c).2.2 e) ((CS c ((ES c).2.1 e) ((ES c).2.2 e)).1 - 1) : Int)) := b
          (repeat first | (with_reducible refine ev_let ?_) | (with_reducible refine ev_ob2 (a1) ?_) | (with_reducible refine ev_ob1 (a1) ?_) | (with_reducible refine ev_ob2 (b') ?_) | (with_reducible refine ev_ob1 (b') ?_) | (with_reducible refine ev_rng ?_ ?_ ?_; (first | omega | (simp (disch := omega) only [zi_ui, zi_ui', zl_ui, za_ui, zb_ui, zi_ul, zl_ul, zl_ul', za_ul, zb_ul, zi_ua, zl_ua, zb_ua, za_ua, za_ua', zi_ub, zl_ub, za_ub, zb_ub, zb_ub', Int.toNat_natCast] <;> omega)); (first | omega | (simp (disch := omega) only [zi_ui, zi_ui', zl_ui, za_ui, zb_ui, zi_ul, zl_ul, zl_ul', za_ul, zb_ul, zi_ua, zl_ua, zb_ua, za_ua, za_ua', zi_ub, zl_ub, za_ub, zb_ub, zb_ub', Int.toNat_natCast] <;> omega))) | (with_reducible refine ev_ins ?_ ?_ ?_; (first | omega | (simp (disch := omega) only [zi_ui, zi_ui', zl_ui, za_ui, zb_ui, zi_ul, zl_ul, zl_ul', za_ul, zb_ul, zi_ua, zl_ua, zb_ua, za_ua, za_ua', zi_ub, zl_ub, za_ub, zb_ub, zb_ub', Int.toNat_natCast] <;> omega)); (first | omega | (simp (disch := omega) only [zi_ui, zi_ui', zl_ui, za_ui, zb_ui, zi_ul, zl_ul, zl_ul', za_ul, zb_ul, zi_ua, zl_ua, zb_ua, za_ua, za_ua', zi_ub, zl_ub, za_ub, zb_ub, zb_ub', Int.toNat_natCast] <;> omega))) | (with_reducible refine ev_if1 ?_ ?_; (first | omega | (simp (disch := omega) only [zi_ui, zi_ui', zl_ui, za_ui, zb_ui, zi_ul, zl_ul, zl_ul', za_ul, zb_ul, zi_ua, zl_ua, zb_ua, za_ua, za_ua', zi_ub, zl_ub, za_ub, zb_ub, zb_ub', Int.toNat_natCast] <;> omega))) | (with_reducible refine ev_if0 ?_ ?_; (first | omega | (simp (disch := omega) only [zi_ui, zi_ui', zl_ui, za_ui, zb_ui, zi_ul, zl_ul, zl_ul', za_ul, zb_ul, zi_ua, zl_ua, zb_ua, za_ua, za_ua', zi_ub, zl_ub, za_ub, zb_ub, zb_ub', Int.toNat_natCast] <;> omega))) | (with_reducible refine ev_rnl ?_ ?_ ?_; (first | omega | (simp (disch := omega) only [zi_ui, zi_ui', zl_ui, za_ui, zb_ui, zi_ul, zl_ul, zl_ul', za_ul, zb_ul, zi_ua, zl_ua, zb_ua, za_ua, za_ua', zi_ub, zl_ub, za_ub, zb_ub, zb_ub', Int.toNat_natCast] <;> omega)); (first | omega | (simp (disch := omega) only [zi_ui, zi_ui', zl_ui, za_ui, zb_ui, zi_ul, zl_ul, zl_ul', za_ul, zb_ul, zi_ua, zl_ua, zb_ua, za_ua, za_ua', zi_ub, zl_ub, za_ub, zb_ub, zb_ub', Int.toNat_natCast] <;> omega))) | (with_reducible refine ev_ne ?_ ?_; (first | omega | (simp (disch := omega) only [zi_ui, zi_ui', zl_ui, za_ui, zb_ui, zi_ul, zl_ul, zl_ul', za_ul, zb_ul, zi_ua, zl_ua, zb_ua, za_ua, za_ua', zi_ub, zl_ub, za_ub, zb_ub, zb_ub', Int.toNat_natCast] <;> omega))) | (with_reducible refine ev_01 ?_ ?_; (first | omega | (simp (disch := omega) only [zi_ui, zi_ui', zl_ui, za_ui, zb_ui, zi_ul, zl_ul, zl_ul', za_ul, zb_ul, zi_ua, zl_ua, zb_ua, za_ua, za_ua', zi_ub, zl_ub, za_ub, zb_ub, zb_ub', Int.toNat_natCast] <;> omega))))
          rfl
        · rw [zl_ui, zl_ul, VM, if_neg c2]
    · obtain ⟨X1, a1, F1, a3, a4⟩ := addS_e hg hs (p := (ES c).2.1 e) (q := (ES c).2.2 e) (f := f) (by omega) (by omega) (by omega) hr ht
      obtain ⟨X2, q1, q2, q3⟩ := ih (f + 1) X1 (hs.fr F1 (by simp) (by intro k _ _; simp)) (hE.fr F1 (by simp) (by intro k _; simp)) (by omega) (by omega) a3 a4
      refine ⟨X2, ?_, (F1.mono (by simp) (by simp) (by simp) (by simp)).tr q2, q3⟩
      obtain ⟨e1, e2, e3⟩ := hE.1.2.1 e he
      rw [f_X0_load_p38, Int.toNat_natCast, e1, e2]
      (repeat first | (with_reducible refine ev_let ?_) | (with_reducible refine ev_ob2 (a1) ?_) | (with_reducible refine ev_ob1 (a1) ?_) | (with_reducible refine ev_rng ?_ ?_ ?_; (first | omega | (simp (disch := omega) only [zi_ui, zi_ui', zl_ui, za_ui, zb_ui, zi_ul, zl_ul, zl_ul', za_ul, zb_ul, zi_ua, zl_ua, zb_ua, za_ua, za_ua', zi_ub, zl_ub, za_ub, zb_ub, zb_ub'] <;> omega)); (first | omega | (simp (disch := omega) only [zi_ui, zi_ui', zl_ui, za_ui, zb_ui, zi_ul, zl_ul, zl_ul', za_ul, zb_ul, zi_ua, zl_ua, zb_ua, za_ua, za_ua', zi_ub, zl_ub, za_ub, zb_ub, zb_ub'] <;> omega))) | (with_reducible refine ev_ins ?_ ?_ ?_; (first | omega | (simp (disch := omega) only [zi_ui, zi_ui', zl_ui, za_ui, zb_ui, zi_ul, zl_ul, zl_ul', za_ul, zb_ul, zi_ua, zl_ua, zb_ua, za_ua, za_ua', zi_ub, zl_ub, za_ub, zb_ub, zb_ub'] <;> omega)); (first | omega | (simp (disch := omega) only [zi_ui, zi_ui', zl_ui, za_ui, zb_ui, zi_ul, zl_ul, zl_ul', za_ul, zb_ul, zi_ua, zl_ua, zb_ua, za_ua, za_ua', zi_ub, zl_ub, za_ub, zb_ub, zb_ub'] <;> omega))) | (with_reducible refine ev_if1 ?_ ?_; (first | omega | (simp (disch := omega) only [zi_ui, zi_ui', zl_ui, za_ui, zb_ui, zi_ul, zl_ul, zl_ul', za_ul, zb_ul, zi_ua, zl_ua, zb_ua, za_ua, za_ua', zi_ub, zl_ub, za_ub, zb_ub, zb_ub'] <;> omega))) | (with_reducible refine ev_if0 ?_ ?_; (first | omega | (simp (disch := omega) only [zi_ui, zi_ui', zl_ui, za_ui, zb_ui, zi_ul, zl_ul, zl_ul', za_ul, zb_ul, zi_ua, zl_ua, zb_ua, za_ua, za_ua', zi_ub, zl_ub, za_ub, zb_ub, zb_ub'] <;> omega))) | (with_reducible refine ev_rnl ?_ ?_ ?_; (first | omega | (simp (disch := omega) only [zi_ui, zi_ui', zl_ui, za_ui, zb_ui, zi_ul, zl_ul, zl_ul', za_ul, zb_ul, zi_ua, zl_ua, zb_ua, za_ua, za_ua', zi_ub, zl_ub, za_ub, zb_ub, zb_ub'] <;> omega)); (first | omega | (simp (disch := omega) only [zi_ui, zi_ui', zl_ui, za_ui, zb_ui, zi_ul, zl_ul, zl_ul', za_ul, zb_ul, zi_ua, zl_ua, zb_ua, za_ua, za_ua', zi_ub, zl_ub, za_ub, zb_ub, zb_ub'] <;> omega))) | (with_reducible refine ev_ne ?_ ?_; (first | omega | (simp (disch := omega) only [zi_ui, zi_ui', zl_ui, za_ui, zb_ui, zi_ul, zl_ul, zl_ul', za_ul, zb_ul, zi_ua, zl_ua, zb_ua, za_ua, za_ua', zi_ub, zl_ub, za_ub, zb_ub, zb_ub'] <;> omega))) | (with_reducible refine ev_01 ?_ ?_; (first | omega | (simp (disch := omega) only [zi_ui, zi_ui', zl_ui, za_ui, zb_ui, zi_ul, zl_ul, zl_ul', za_ul, zb_ul, zi_ua, zl_ua, zb_ua, za_ua, za_ua', zi_ub, zl_ub, za_ub, zb_ub, zb_ub'] <;> omega))))
      exact q1
def Loaded (c X : SZ) : Prop := zi X 11 = -9 ∨ ∃ e, e < (ES c).1 ∧ CutX c X e
theorem load_e {c X : SZ} (hg : Gd c) (hs : Sight c X) (hE : EdgesX c X) (hL : Loaded c X) {e : Nat} (he : e < (ES c).1) : Ok (f_X0_load X e) (fun X1 => Fr [10, 11, 12] [17] [0] [0, 1, 2] X X1 ∧ CutX c X1 e) := by
  have h80 := es_80 hg
  have n2 := nf_24 hg
  by_cases h11 : zi X 11 = e
  · rcases hL with h | ⟨e2, h1, h2⟩
    · exact absurd h11 (by omega)
    · have : e2 = e := by have := h2.1; omega
      subst this
      refine ⟨X, ?_, Fr.rf _ _ _ _ X, h2⟩
      unfold f_X0_load
      (repeat first | (with_reducible refine ev_let ?_) | (with_reducible refine ev_rng ?_ ?_ ?_; (first | omega | (simp (disch := omega) only [zi_ui, zi_ui', zl_ui, za_ui, zb_ui, zi_ul, zl_ul, zl_ul', za_ul, zb_ul, zi_ua, zl_ua, zb_ua, za_ua, za_ua', zi_ub, zl_ub, za_ub, zb_ub, zb_ub'] <;> omega)); (first | omega | (simp (disch := omega) only [zi_ui, zi_ui', zl_ui, za_ui, zb_ui, zi_ul, zl_ul, zl_ul', za_ul, zb_ul, zi_ua, zl_ua, zb_ua, za_ua, za_ua', zi_ub, zl_ub, za_ub, zb_ub, zb_ub'] <;> omega))) | (with_reducible refine ev_ins ?_ ?_ ?_; (first | omega | (simp (disch := omega) only [zi_ui, zi_ui', zl_ui, za_ui, zb_ui, zi_ul, zl_ul, zl_ul', za_ul, zb_ul, zi_ua, zl_ua, zb_ua, za_ua, za_ua', zi_ub, zl_ub, za_ub, zb_ub, zb_ub'] <;> omega)); (first | omega | (simp (disch := omega) only [zi_ui, zi_ui', zl_ui, za_ui, zb_ui, zi_ul, zl_ul, zl_ul', za_ul, zb_ul, zi_ua, zl_ua, zb_ua, za_ua, za_ua', zi_ub, zl_ub, za_ub, zb_ub, zb_ub'] <;> omega))) | (with_reducible refine ev_if1 ?_ ?_; (first | omega | (simp (disch := omega) only [zi_ui, zi_ui', zl_ui, za_ui, zb_ui, zi_ul, zl_ul, zl_ul', za_ul, zb_ul, zi_ua, zl_ua, zb_ua, za_ua, za_ua', zi_ub, zl_ub, za_ub, zb_ub, zb_ub'] <;> omega))) | (with_reducible refine ev_if0 ?_ ?_; (first | omega | (simp (disch := omega) only [zi_ui, zi_ui', zl_ui, za_ui, zb_ui, zi_ul, zl_ul, zl_ul', za_ul, zb_ul, zi_ua, zl_ua, zb_ua, za_ua, za_ua', zi_ub, zl_ub, za_ub, zb_ub, zb_ub'] <;> omega))) | (with_reducible refine ev_rnl ?_ ?_ ?_; (first | omega | (simp (disch := omega) only [zi_ui, zi_ui', zl_ui, za_ui, zb_ui, zi_ul, zl_ul, zl_ul', za_ul, zb_ul, zi_ua, zl_ua, zb_ua, za_ua, za_ua', zi_ub, zl_ub, za_ub, zb_ub, zb_ub'] <;> omega)); (first | omega | (simp (disch := omega) only [zi_ui, zi_ui', zl_ui, za_ui, zb_ui, zi_ul, zl_ul, zl_ul', za_ul, zb_ul, zi_ua, zl_ua, zb_ua, za_ua, za_ua', zi_ub, zl_ub, za_ub, zb_ub, zb_ub'] <;> omega))) | (with_reducible refine ev_ne ?_ ?_; (first | omega | (simp (disch := omega) only [zi_ui, zi_ui', zl_ui, za_ui, zb_ui, zi_ul, zl_ul, zl_ul', za_ul, zb_ul, zi_ua, zl_ua, zb_ua, za_ua, za_ua', zi_ub, zl_ub, za_ub, zb_ub, zb_ub'] <;> omega))) | (with_reducible refine ev_01 ?_ ?_; (first | omega | (simp (disch := omega) only [zi_ui, zi_ui', zl_ui, za_ui, zb_ui, zi_ul, zl_ul, zl_ul', za_ul, zb_ul, zi_ua, zl_ua, zb_ua, za_ua, za_ua', zi_ub, zl_ub, za_ub, zb_ub, zb_ub'] <;> omega))))
      rfl
  · have hb : -9 ≤ zi X 11 ∧ zi X 11 ≤ 80 := by
      rcases hL with h | ⟨e2, h1, h2⟩
      · omega
      · have := h2.1; omega
    have F1 : Fr [10, 11, 12] [17] [0] [0, 1, 2] X (ui (ui (ub (ub X 2 (0 : Int).toNat 1) 2 (1 : Int).toNat 4294967297) 12 2) 10 0) := ((((Fr.rf _ _ _ _ X).ub (by decide) _ _).ub (by decide) _ _).ui (by decide) _).ui (by decide) _
    obtain ⟨X2, q1, q2, q3⟩ := load_p hg he FU 0 _ (hs.fr F1 (by simp) (by intro k _ _; simp; omega)) (hE.fr F1 (by simp) (by intro k _; simp; omega)) (by omega) (by rw [fu_eq]; omega) (by
      refine ⟨by rw [zi_ui' _ _ (by omega), zi_ui]; rfl, fun k hk => ?_⟩
      have hk2 : k < cut0.1 := hk
      rw [cut0_e.1] at hk2
      rw [zb_ui, zb_ui, zb_ubi, zb_ubi, CutS]
      have : k = 0 ∨ k = 1 := by omega
      rcases this with rfl | rfl
      · rw [cut0_e.2.1]; rfl
      · rw [cut0_e.2.2]; rfl) ⟨by rw [zi_ui]; rfl, fun i hi => absurd hi (Nat.not_lt_zero _)⟩
    refine ⟨X2, ?_, F1.tr q2, q3⟩
    unfold f_X0_load
    (repeat first | (with_reducible refine ev_let ?_) | (with_reducible refine ev_rng ?_ ?_ ?_; (first | omega | (simp (disch := omega) only [zi_ui, zi_ui', zl_ui, za_ui, zb_ui, zi_ul, zl_ul, zl_ul', za_ul, zb_ul, zi_ua, zl_ua, zb_ua, za_ua, za_ua', zi_ub, zl_ub, za_ub, zb_ub, zb_ub'] <;> omega)); (first | omega | (simp (disch := omega) only [zi_ui, zi_ui', zl_ui, za_ui, zb_ui, zi_ul, zl_ul, zl_ul', za_ul, zb_ul, zi_ua, zl_ua, zb_ua, za_ua, za_ua', zi_ub, zl_ub, za_ub, zb_ub, zb_ub'] <;> omega))) | (with_reducible refine ev_ins ?_ ?_ ?_; (first | omega | (simp (disch := omega) only [zi_ui, zi_ui', zl_ui, za_ui, zb_ui, zi_ul, zl_ul, zl_ul', za_ul, zb_ul, zi_ua, zl_ua, zb_ua, za_ua, za_ua', zi_ub, zl_ub, za_ub, zb_ub, zb_ub'] <;> omega)); (first | omega | (simp (disch := omega) only [zi_ui, zi_ui', zl_ui, za_ui, zb_ui, zi_ul, zl_ul, zl_ul', za_ul, zb_ul, zi_ua, zl_ua, zb_ua, za_ua, za_ua', zi_ub, zl_ub, za_ub, zb_ub, zb_ub'] <;> omega))) | (with_reducible refine ev_if1 ?_ ?_; (first | omega | (simp (disch := omega) only [zi_ui, zi_ui', zl_ui, za_ui, zb_ui, zi_ul, zl_ul, zl_ul', za_ul, zb_ul, zi_ua, zl_ua, zb_ua, za_ua, za_ua', zi_ub, zl_ub, za_ub, zb_ub, zb_ub'] <;> omega))) | (with_reducible refine ev_if0 ?_ ?_; (first | omega | (simp (disch := omega) only [zi_ui, zi_ui', zl_ui, za_ui, zb_ui, zi_ul, zl_ul, zl_ul', za_ul, zb_ul, zi_ua, zl_ua, zb_ua, za_ua, za_ua', zi_ub, zl_ub, za_ub, zb_ub, zb_ub'] <;> omega))) | (with_reducible refine ev_rnl ?_ ?_ ?_; (first | omega | (simp (disch := omega) only [zi_ui, zi_ui', zl_ui, za_ui, zb_ui, zi_ul, zl_ul, zl_ul', za_ul, zb_ul, zi_ua, zl_ua, zb_ua, za_ua, za_ua', zi_ub, zl_ub, za_ub, zb_ub, zb_ub'] <;> omega)); (first | omega | (simp (disch := omega) only [zi_ui, zi_ui', zl_ui, za_ui, zb_ui, zi_ul, zl_ul, zl_ul', za_ul, zb_ul, zi_ua, zl_ua, zb_ua, za_ua, za_ua', zi_ub, zl_ub, za_ub, zb_ub, zb_ub'] <;> omega))) | (with_reducible refine ev_ne ?_ ?_; (first | omega | (simp (disch := omega) only [zi_ui, zi_ui', zl_ui, za_ui, zb_ui, zi_ul, zl_ul, zl_ul', za_ul, zb_ul, zi_ua, zl_ua, zb_ua, za_ua, za_ua', zi_ub, zl_ub, za_ub, zb_ub, zb_ub'] <;> omega))) | (with_reducible refine ev_01 ?_ ?_; (first | omega | (simp (disch := omega) only [zi_ui, zi_ui', zl_ui, za_ui, zb_ui, zi_ul, zl_ul, zl_ul', za_ul, zb_ul, zi_ua, zl_ua, zb_ua, za_ua, za_ua', zi_ub, zl_ub, za_ub, zb_ub, zb_ub'] <;> omega))))
    exact q1
