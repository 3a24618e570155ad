/-! PIECES of all edges -/
noncomputable def CE (c : SZ) (e : Nat) : CR := CS c ((ES c).2.1 e) ((ES c).2.2 e)
noncomputable def QE (c : SZ) (e k : Nat) : Nat := Q c ((ES c).2.1 e) ((ES c).2.2 e) k
noncomputable def VE (c : SZ) (e : Nat) : Nat := VM c ((ES c).2.1 e) ((ES c).2.2 e)
noncomputable def SE (c : SZ) (e : Nat) : Int := srt c ((ES c).2.1 e) ((ES c).2.2 e)
noncomputable def sumA (c : SZ) : Nat → Nat
  | 0 => 0
  | e + 1 => sumA c e + ((CE c e).1 - 1)
noncomputable def sumV (c : SZ) : Nat → Nat
  | 0 => 0
  | e + 1 => sumV c e + pc 64 (VE c e)
noncomputable def gk (c : SZ) (e a : Nat) : Nat → Nat
  | 0 => a
  | k + 1 => if gk c e a k < QE c e k then QE c e k else gk c e a k
noncomputable def gre (c : SZ) : Nat → Nat
  | 0 => 0
  | e + 1 => gk c e (gre c e) ((CE c e).1 - 1)
theorem gk_le {c : SZ} (hg : Gd c) {e a : Nat} (ha : a ≤ 24) : ∀ k, gk c e a k ≤ 24
  | 0 => ha
  | k + 1 => by
    have := gk_le hg (e := e) ha k
    have := Q_le hg ((ES c).2.1 e) ((ES c).2.2 e) k
    rw [gk]; split
    · exact this
    · assumption
theorem gre_le {c : SZ} (hg : Gd c) : ∀ e, gre c e ≤ 24
  | 0 => Nat.zero_le _
  | e + 1 => gk_le hg (gre_le hg e) _
def PcX (c X : SZ) (m : Nat) : Prop := (∀ e, e < m → za X 18 e = (CE c e).1 - 1 ∧ zb X 3 e = VE c e) ∧ zi X 13 = sumA c m ∧ zi X 14 = sumV c m ∧ zi X 15 = gre c m
def PiecesX (c X : SZ) : Prop := PcX c X (ES c).1
theorem CE_ln {c : SZ} (hg : Gd c) (e : Nat) : 2 ≤ (CE c e).1 ∧ (CE c e).1 ≤ 50 := CS_ln hg _ _
theorem gk_p {c : SZ} (hg : Gd c) {e a : Nat} (he : e < 80) (ha : a ≤ 24) {P : SZ → Prop} {k18 : SZ → Int → Option SZ} : ∀ (fu k : Nat) (X : SZ), za X 18 e = (CE c e).1 - 1 → (∀ j, j + 1 < (CE c e).1 → za X 17 j = QE c e j) → zi X 15 = gk c e a k → k + 1 ≤ (CE c e).1 → (CE c e).1 < k + 1 + fu → (∀ X1, Fr [15] [] [] [] X X1 → zi X1 15 = gk c e a ((CE c e).1 - 1) → Ok (k18 X1 ((e : Int) + 1)) P) → Ok (f_X5_rebuild_p95 k18 fu X e k) P := by
  have hln := CE_ln hg e
  intro fu
  induction fu with
  | zero => intro k X _ _ _ h1 h2; exact absurd h2 (by omega)
  | succ fu ih =>
    intro k X z18 z17 z15 h1 h2 K
    have gb := gk_le hg (e := e) ha k
    by_cases hk : k + 1 = (CE c e).1
    · obtain ⟨X1, q1, q2⟩ := K X (Fr.rf _ _ _ _ X) (by rw [show (CE c e).1 - 1 = k by omega]; exact z15)
      refine ⟨X1, ?_, q2⟩
      rw [f_X5_rebuild_p95, Int.toNat_natCast, z18]
      (repeat first | (with_reducible refine ev_let ?_) | (with_reducible refine ev_rng ?_ ?_ ?_; (first | omega | (simp (disch := omega) only [zi_ui, zi_ui', zl_ui, za_ui, zb_ui, zi_ul, zl_ul, zl_ul', za_ul, zb_ul, zi_ua, zl_ua, zb_ua, za_ua, za_ua', zi_ub, zl_ub, za_ub, zb_ub, zb_ub'] <;> omega)); (first | omega | (simp (disch := omega) only [zi_ui, zi_ui', zl_ui, za_ui, zb_ui, zi_ul, zl_ul, zl_ul', za_ul, zb_ul, zi_ua, zl_ua, zb_ua, za_ua, za_ua', zi_ub, zl_ub, za_ub, zb_ub, zb_ub'] <;> omega))) | (with_reducible refine ev_ins ?_ ?_ ?_; (first | omega | (simp (disch := omega) only [zi_ui, zi_ui', zl_ui, za_ui, zb_ui, zi_ul, zl_ul, zl_ul', za_ul, zb_ul, zi_ua, zl_ua, zb_ua, za_ua, za_ua', zi_ub, zl_ub, za_ub, zb_ub, zb_ub'] <;> omega)); (first | omega | (simp (disch := omega) only [zi_ui, zi_ui', zl_ui, za_ui, zb_ui, zi_ul, zl_ul, zl_ul', za_ul, zb_ul, zi_ua, zl_ua, zb_ua, za_ua, za_ua', zi_ub, zl_ub, za_ub, zb_ub, zb_ub'] <;> omega))) | (with_reducible refine ev_if1 ?_ ?_; (first | omega | (simp (disch := omega) only [zi_ui, zi_ui', zl_ui, za_ui, zb_ui, zi_ul, zl_ul, zl_ul', za_ul, zb_ul, zi_ua, zl_ua, zb_ua, za_ua, za_ua', zi_ub, zl_ub, za_ub, zb_ub, zb_ub'] <;> omega))) | (with_reducible refine ev_if0 ?_ ?_; (first | omega | (simp (disch := omega) only [zi_ui, zi_ui', zl_ui, za_ui, zb_ui, zi_ul, zl_ul, zl_ul', za_ul, zb_ul, zi_ua, zl_ua, zb_ua, za_ua, za_ua', zi_ub, zl_ub, za_ub, zb_ub, zb_ub'] <;> omega))) | (with_reducible refine ev_rnl ?_ ?_ ?_; (first | omega | (simp (disch := omega) only [zi_ui, zi_ui', zl_ui, za_ui, zb_ui, zi_ul, zl_ul, zl_ul', za_ul, zb_ul, zi_ua, zl_ua, zb_ua, za_ua, za_ua', zi_ub, zl_ub, za_ub, zb_ub, zb_ub'] <;> omega)); (first | omega | (simp (disch := omega) only [zi_ui, zi_ui', zl_ui, za_ui, zb_ui, zi_ul, zl_ul, zl_ul', za_ul, zb_ul, zi_ua, zl_ua, zb_ua, za_ua, za_ua', zi_ub, zl_ub, za_ub, zb_ub, zb_ub'] <;> omega))) | (with_reducible refine ev_ne ?_ ?_; (first | omega | (simp (disch := omega) only [zi_ui, zi_ui', zl_ui, za_ui, zb_ui, zi_ul, zl_ul, zl_ul', za_ul, zb_ul, zi_ua, zl_ua, zb_ua, za_ua, za_ua', zi_ub, zl_ub, za_ub, zb_ub, zb_ub'] <;> omega))) | (with_reducible refine ev_01 ?_ ?_; (first | omega | (simp (disch := omega) only [zi_ui, zi_ui', zl_ui, za_ui, zb_ui, zi_ul, zl_ul, zl_ul', za_ul, zb_ul, zi_ua, zl_ua, zb_ua, za_ua, za_ua', zi_ub, zl_ub, za_ub, zb_ub, zb_ub'] <;> omega))))
      exact q1
    · have hq := z17 k (by omega)
      have qb : QE c e k ≤ 24 := Q_le hg _ _ k
      have F1 : Fr [15] [] [] [] X (ui X 15 (gk c e a (k + 1))) := (Fr.rf _ _ _ _ X).ui (by decide) _
      obtain ⟨X1, q1, q2⟩ := ih (k + 1) (ui X 15 (gk c e a (k + 1))) (by rw [za_ui]; exact z18) (fun j hj => by rw [za_ui]; exact z17 j hj) (by rw [zi_ui]) (by omega) (by omega) (fun X1 F2 => K X1 (F1.tr F2))
      refine ⟨X1, ?_, q2⟩
      rw [f_X5_rebuild_p95, Int.toNat_natCast, Int.toNat_natCast, z18, hq, z15]
      (repeat first | (with_reducible refine ev_let ?_) | (with_reducible refine ev_rng ?_ ?_ ?_; (first | omega | (simp (disch := omega) only [zi_ui, zi_ui', zl_ui, za_ui, zb_ui, zi_ul, zl_ul, zl_ul', za_ul, zb_ul, zi_ua, zl_ua, zb_ua, za_ua, za_ua', zi_ub, zl_ub, za_ub, zb_ub, zb_ub'] <;> omega)); (first | omega | (simp (disch := omega) only [zi_ui, zi_ui', zl_ui, za_ui, zb_ui, zi_ul, zl_ul, zl_ul', za_ul, zb_ul, zi_ua, zl_ua, zb_ua, za_ua, za_ua', zi_ub, zl_ub, za_ub, zb_ub, zb_ub'] <;> omega))) | (with_reducible refine ev_ins ?_ ?_ ?_; (first | omega | (simp (disch := omega) only [zi_ui, zi_ui', zl_ui, za_ui, zb_ui, zi_ul, zl_ul, zl_ul', za_ul, zb_ul, zi_ua, zl_ua, zb_ua, za_ua, za_ua', zi_ub, zl_ub, za_ub, zb_ub, zb_ub'] <;> omega)); (first | omega | (simp (disch := omega) only [zi_ui, zi_ui', zl_ui, za_ui, zb_ui, zi_ul, zl_ul, zl_ul', za_ul, zb_ul, zi_ua, zl_ua, zb_ua, za_ua, za_ua', zi_ub, zl_ub, za_ub, zb_ub, zb_ub'] <;> omega))) | (with_reducible refine ev_if1 ?_ ?_; (first | omega | (simp (disch := omega) only [zi_ui, zi_ui', zl_ui, za_ui, zb_ui, zi_ul, zl_ul, zl_ul', za_ul, zb_ul, zi_ua, zl_ua, zb_ua, za_ua, za_ua', zi_ub, zl_ub, za_ub, zb_ub, zb_ub'] <;> omega))) | (with_reducible refine ev_if0 ?_ ?_; (first | omega | (simp (disch := omega) only [zi_ui, zi_ui', zl_ui, za_ui, zb_ui, zi_ul, zl_ul, zl_ul', za_ul, zb_ul, zi_ua, zl_ua, zb_ua, za_ua, za_ua', zi_ub, zl_ub, za_ub, zb_ub, zb_ub'] <;> omega))) | (with_reducible refine ev_rnl ?_ ?_ ?_; (first | omega | (simp (disch := omega) only [zi_ui, zi_ui', zl_ui, za_ui, zb_ui, zi_ul, zl_ul, zl_ul', za_ul, zb_ul, zi_ua, zl_ua, zb_ua, za_ua, za_ua', zi_ub, zl_ub, za_ub, zb_ub, zb_ub'] <;> omega)); (first | omega | (simp (disch := omega) only [zi_ui, zi_ui', zl_ui, za_ui, zb_ui, zi_ul, zl_ul, zl_ul', za_ul, zb_ul, zi_ua, zl_ua, zb_ua, za_ua, za_ua', zi_ub, zl_ub, za_ub, zb_ub, zb_ub'] <;> omega))) | (with_reducible refine ev_ne ?_ ?_; (first | omega | (simp (disch := omega) only [zi_ui, zi_ui', zl_ui, za_ui, zb_ui, zi_ul, zl_ul, zl_ul', za_ul, zb_ul, zi_ua, zl_ua, zb_ua, za_ua, za_ua', zi_ub, zl_ub, za_ub, zb_ub, zb_ub'] <;> omega))) | (with_reducible refine ev_01 ?_ ?_; (first | omega | (simp (disch := omega) only [zi_ui, zi_ui', zl_ui, za_ui, zb_ui, zi_ul, zl_ul, zl_ul', za_ul, zb_ul, zi_ua, zl_ua, zb_ua, za_ua, za_ua', zi_ub, zl_ub, za_ub, zb_ub, zb_ub'] <;> omega))))
      rw [show (if (gk c e a k : Int) < (QE c e k : Int) then (QE c e k : Int) else (gk c e a k : Int)) = ((gk c e a (k + 1) : Nat) : Int) by
        rw [gk]; split
        · rw [if_pos (by omega)]
        · rw [if_neg (by omega)]]
      exact q1
theorem pieces_p {c : SZ} (hg : Gd c) : ∀ (fu e : Nat) (X : SZ), Sight c X → EdgesX c X → Loaded c X → PcX c X e → e ≤ (ES c).1 → (ES c).1 < e + fu → Ok (f_X5_rebuild_p18 fu X e) (fun X1 => Fr [10, 11, 12, 13, 14, 15] [17, 18] [0] [0, 1, 2, 3] X X1 ∧ PiecesX c X1 ∧ Loaded c X1) := by
  have h80 := es_80 hg
  intro fu
  induction fu with
  | zero => intro e X _ _ _ _ h1 h2; exact absurd h2 (by omega)
  | succ fu ih =>
    intro e X hs hE hL hP h1 h2
    have h9 := hE.1.1
    by_cases he : e = (ES c).1
    · subst he
      refine ⟨X, ?_, Fr.rf _ _ _ _ X, hP, hL⟩
      rw [f_X5_rebuild_p18]
      (repeat first | (with_reducible refine ev_let ?_) | (with_reducible refine ev_rng ?_ ?_ ?_; (first | omega | (simp (disch := omega) only [zi_ui, zi_ui', zl_ui, za_ui, zb_ui, zi_ul, zl_ul, zl_ul', za_ul, zb_ul, zi_ua, zl_ua, zb_ua, za_ua, za_ua', zi_ub, zl_ub, za_ub, zb_ub, zb_ub'] <;> omega)); (first | omega | (simp (disch := omega) only [zi_ui, zi_ui', zl_ui, za_ui, zb_ui, zi_ul, zl_ul, zl_ul', za_ul, zb_ul, zi_ua, zl_ua, zb_ua, za_ua, za_ua', zi_ub, zl_ub, za_ub, zb_ub, zb_ub'] <;> omega))) | (with_reducible refine ev_ins ?_ ?_ ?_; (first | omega | (simp (disch := omega) only [zi_ui, zi_ui', zl_ui, za_ui, zb_ui, zi_ul, zl_ul, zl_ul', za_ul, zb_ul, zi_ua, zl_ua, zb_ua, za_ua, za_ua', zi_ub, zl_ub, za_ub, zb_ub, zb_ub'] <;> omega)); (first | omega | (simp (disch := omega) only [zi_ui, zi_ui', zl_ui, za_ui, zb_ui, zi_ul, zl_ul, zl_ul', za_ul, zb_ul, zi_ua, zl_ua, zb_ua, za_ua, za_ua', zi_ub, zl_ub, za_ub, zb_ub, zb_ub'] <;> omega))) | (with_reducible refine ev_if1 ?_ ?_; (first | omega | (simp (disch := omega) only [zi_ui, zi_ui', zl_ui, za_ui, zb_ui, zi_ul, zl_ul, zl_ul', za_ul, zb_ul, zi_ua, zl_ua, zb_ua, za_ua, za_ua', zi_ub, zl_ub, za_ub, zb_ub, zb_ub'] <;> omega))) | (with_reducible refine ev_if0 ?_ ?_; (first | omega | (simp (disch := omega) only [zi_ui, zi_ui', zl_ui, za_ui, zb_ui, zi_ul, zl_ul, zl_ul', za_ul, zb_ul, zi_ua, zl_ua, zb_ua, za_ua, za_ua', zi_ub, zl_ub, za_ub, zb_ub, zb_ub'] <;> omega))) | (with_reducible refine ev_rnl ?_ ?_ ?_; (first | omega | (simp (disch := omega) only [zi_ui, zi_ui', zl_ui, za_ui, zb_ui, zi_ul, zl_ul, zl_ul', za_ul, zb_ul, zi_ua, zl_ua, zb_ua, za_ua, za_ua', zi_ub, zl_ub, za_ub, zb_ub, zb_ub'] <;> omega)); (first | omega | (simp (disch := omega) only [zi_ui, zi_ui', zl_ui, za_ui, zb_ui, zi_ul, zl_ul, zl_ul', za_ul, zb_ul, zi_ua, zl_ua, zb_ua, za_ua, za_ua', zi_ub, zl_ub, za_ub, zb_ub, zb_ub'] <;> omega))) | (with_reducible refine ev_ne ?_ ?_; (first | omega | (simp (disch := omega) only [zi_ui, zi_ui', zl_ui, za_ui, zb_ui, zi_ul, zl_ul, zl_ul', za_ul, zb_ul, zi_ua, zl_ua, zb_ua, za_ua, za_ua', zi_ub, zl_ub, za_ub, zb_ub, zb_ub'] <;> omega))) | (with_reducible refine ev_01 ?_ ?_; (first | omega | (simp (disch := omega) only [zi_ui, zi_ui', zl_ui, za_ui, zb_ui, zi_ul, zl_ul, zl_ul', za_ul, zb_ul, zi_ua, zl_ua, zb_ua, za_ua, za_ua', zi_ub, zl_ub, za_ub, zb_ub, zb_ub'] <;> omega))))
      rfl
    · have he2 : e < (ES c).1 := by omega
      obtain ⟨X1, a1, F1, a3⟩ := load_e hg hs hE hL he2
      have hln := CE_ln hg e
      have r12 : zi X1 12 = (CE c e).1 := a3.2.1.1
      have l0 : zl X1 0 = VE c e := a3.2.2.2
      have vlt : VE c e < 2 ^ 49 := VM_lt hg _ _
      have bc := bitCount_e (ui (ub (ua X1 18 e ((CE c e).1 - 1 : Int)) 3 e (VE c e)) 13 (sumA c (e + 1))) (m := VE c e) (by omega)
      have F2 : Fr [10, 11, 12, 13, 14, 15] [17, 18] [0] [0, 1, 2, 3] X (ui (ui (ub (ua X1 18 e ((CE c e).1 - 1 : Int)) 3 e (VE c e)) 13 (sumA c (e + 1))) 14 (sumV c (e + 1))) := ((((F1.mono (by simp) (by simp) (by simp) (by simp)).ua (by decide) _ _).ub (by decide) _ _).ui (by decide) _).ui (by decide) _
      have key := gk_p hg (e := e) (a := gre c e) (by omega) (gre_le hg e) (P := fun X1 => Fr [10, 11, 12, 13, 14, 15] [17, 18] [0] [0, 1, 2, 3] X X1 ∧ PiecesX c X1 ∧ Loaded c X1) (k18 := f_X5_rebuild_p18 fu) FU 0 (ui (ui (ub (ua X1 18 e ((CE c e).1 - 1 : Int)) 3 e (VE c e)) 13 (sumA c (e + 1))) 14 (sumV c (e + 1))) (by simp (disch := omega) only [zi_ui, zi_ui', zl_ui, za_ui, zb_ui, zi_ul, zl_ul, zl_ul', za_ul, zb_ul, zi_ua, zl_ua, zb_ua, za_ua, za_ua', zi_ub, zl_ub, za_ub, zb_ub, zb_ub']) (fun j hj => by simp (disch := omega) only [zi_ui, zi_ui', zl_ui, za_ui, zb_ui, zi_ul, zl_ul, zl_ul', za_ul, zb_ul, zi_ua, zl_ua, zb_ua, za_ua, za_ua', zi_ub, zl_ub, za_ub, zb_ub, zb_ub']; exact a3.2.2.1 j hj) (by simp (disch := omega) only [zi_ui, zi_ui', zl_ui, za_ui, zb_ui, zi_ul, zl_ul, zl_ul', za_ul, zb_ul, zi_ua, zl_ua, zb_ua, za_ua, za_ua', zi_ub, zl_ub, za_ub, zb_ub, zb_ub']; rw [F1.1 15 (by decide)]; exact hP.2.2.2) (by omega) (by rw [fu_eq]; omega) (fun X3 F3 g3 => by
        have F4 : Fr [10, 11, 12, 13, 14, 15] [17, 18] [0] [0, 1, 2, 3] X X3 := F2.tr (F3.mono (by simp) (by simp) (by simp) (by simp))
        have hL3 : Loaded c X3 := by
          refine Or.inr ⟨e, he2, ?_, ⟨?_, fun k hk => ?_⟩, fun k hk => ?_, ?_⟩
          · rw [F3.1 11 (by decide)]; simp (disch := omega) only [zi_ui, zi_ui', zl_ui, za_ui, zb_ui, zi_ul, zl_ul, zl_ul', za_ul, zb_ul, zi_ua, zl_ua, zb_ua, za_ua, za_ua', zi_ub, zl_ub, za_ub, zb_ub, zb_ub']; exact a3.1
          · rw [F3.1 12 (by decide)]; simp (disch := omega) only [zi_ui, zi_ui', zl_ui, za_ui, zb_ui, zi_ul, zl_ul, zl_ul', za_ul, zb_ul, zi_ua, zl_ua, zb_ua, za_ua, za_ua', zi_ub, zl_ub, za_ub, zb_ub, zb_ub']; exact a3.2.1.1
          · rw [F3.2.2.2 2 _ (by decide)]; simp (disch := omega) only [zi_ui, zi_ui', zl_ui, za_ui, zb_ui, zi_ul, zl_ul, zl_ul', za_ul, zb_ul, zi_ua, zl_ua, zb_ua, za_ua, za_ua', zi_ub, zl_ub, za_ub, zb_ub, zb_ub']; exact a3.2.1.2 k hk
          · rw [F3.2.1 17 _ (by decide)]; simp (disch := omega) only [zi_ui, zi_ui', zl_ui, za_ui, zb_ui, zi_ul, zl_ul, zl_ul', za_ul, zb_ul, zi_ua, zl_ua, zb_ua, za_ua, za_ua', zi_ub, zl_ub, za_ub, zb_ub, zb_ub']; exact a3.2.2.1 k hk
          · rw [F3.2.2.1 0 (by decide)]; simp (disch := omega) only [zi_ui, zi_ui', zl_ui, za_ui, zb_ui, zi_ul, zl_ul, zl_ul', za_ul, zb_ul, zi_ua, zl_ua, zb_ua, za_ua, za_ua', zi_ub, zl_ub, za_ub, zb_ub, zb_ub']; exact a3.2.2.2
        obtain ⟨X5, q1, q2, q3⟩ := ih (e + 1) X3 (hs.fr F4 (by simp) (by intro k _ _; simp; omega)) (hE.fr F4 (by simp) (by intro k _; simp; omega)) hL3 ⟨fun e2 he3 => by
          rw [F3.2.1 18 _ (by decide), F3.2.2.2 3 _ (by decide), za_ui, za_ui, za_ub, za_uai, zb_ui, zb_ui, zb_ubi]
          by_cases hh : e2 = e
          · rw [if_pos hh, if_pos hh, hh]; exact ⟨rfl, rfl⟩
          · rw [if_neg hh, if_neg hh, zb_ua, F1.2.1 18 _ (by decide), F1.2.2.2 3 _ (by decide)]
            exact hP.1 e2 (by omega), by rw [F3.1 13 (by decide)]; simp (disch := omega) only [zi_ui, zi_ui', zl_ui, za_ui, zb_ui, zi_ul, zl_ul, zl_ul', za_ul, zb_ul, zi_ua, zl_ua, zb_ua, za_ua, za_ua', zi_ub, zl_ub, za_ub, zb_ub, zb_ub'], by rw [F3.1 14 (by decide)]; simp (disch := omega) only [zi_ui, zi_ui', zl_ui, za_ui, zb_ui, zi_ul, zl_ul, zl_ul', za_ul, zb_ul, zi_ua, zl_ua, zb_ua, za_ua, za_ua', zi_ub, zl_ub, za_ub, zb_ub, zb_ub'], g3⟩ (by omega) (by omega)
        exact ⟨X5, q1, F4.tr q2, q3⟩)
      obtain ⟨X3, q1, q2⟩ := key
      refine ⟨X3, ?_, q2⟩
      have s13 : zi X1 13 = sumA c e := by rw [F1.1 13 (by decide)]; exact hP.2.1
      have s14 : zi X1 14 = sumV c e := by rw [F1.1 14 (by decide)]; exact hP.2.2.1
      have pcE : f_X0_pieceCount X1 = some (X1, ((CE c e).1 : Int) - 1) := by unfold f_X0_pieceCount; rw [r12]
      rw [f_X5_rebuild_p18]
      rw [chk_rng (by omega) (by omega), chk_rng (by omega) (by omega), if_neg (by omega), a1, ob1_s, pcE, ob2_s, chk_ins (by omega) (by omega), olet_e, olet_e, olet_e, Int.toNat_natCast]
      rw [zl_ua, l0, zi_ub, zi_ua, s13, za_ub, za_ua, zb_ui, zb_ub]
      rw [show (sumA c e : Int) + (((CE c e).1 : Int) - 1) = ((sumA c (e + 1) : Nat) : Int) by rw [sumA]; omega, bc, ob2_s, olet_e, zi_ui' _ _ (by omega), zi_ub, zi_ua, s14]
      rw [show (sumV c e : Int) + (pc 64 (VE c e) : Int) = ((sumV c (e + 1) : Nat) : Int) by rw [sumV]; omega]
      exact q1
theorem pieces_e {c X : SZ} (hg : Gd c) (hs : Sight c X) (hE : EdgesX c X) (hL : Loaded c X) : Ok (f_X5_rebuild X) (fun X1 => Fr [10, 11, 12, 13, 14, 15] [17, 18] [0] [0, 1, 2, 3] X X1 ∧ PiecesX c X1 ∧ Loaded c X1) := by
  have h80 := es_80 hg
  have F1 : Fr [13, 14, 15] [] [] [] X (ui (ui (ui X 13 0) 14 0) 15 0) := (((Fr.rf _ _ _ _ X).ui (by decide) _).ui (by decide) _).ui (by decide) _
  have hL1 : Loaded c (ui (ui (ui X 13 0) 14 0) 15 0) := by
    rcases hL with h | ⟨e, h1, h2⟩
    · left; simp (disch := omega) only [zi_ui, zi_ui', zl_ui, za_ui, zb_ui, zi_ul, zl_ul, zl_ul', za_ul, zb_ul, zi_ua, zl_ua, zb_ua, za_ua, za_ua', zi_ub, zl_ub, za_ub, zb_ub, zb_ub']; exact h
    · refine Or.inr ⟨e, h1, ?_, ⟨?_, fun k hk => ?_⟩, fun k hk => ?_, ?_⟩
      · simp (disch := omega) only [zi_ui, zi_ui', zl_ui, za_ui, zb_ui, zi_ul, zl_ul, zl_ul', za_ul, zb_ul, zi_ua, zl_ua, zb_ua, za_ua, za_ua', zi_ub, zl_ub, za_ub, zb_ub, zb_ub']; exact h2.1
      · simp (disch := omega) only [zi_ui, zi_ui', zl_ui, za_ui, zb_ui, zi_ul, zl_ul, zl_ul', za_ul, zb_ul, zi_ua, zl_ua, zb_ua, za_ua, za_ua', zi_ub, zl_ub, za_ub, zb_ub, zb_ub']; exact h2.2.1.1
      · simp (disch := omega) only [zi_ui, zi_ui', zl_ui, za_ui, zb_ui, zi_ul, zl_ul, zl_ul', za_ul, zb_ul, zi_ua, zl_ua, zb_ua, za_ua, za_ua', zi_ub, zl_ub, za_ub, zb_ub, zb_ub']; exact h2.2.1.2 k hk
      · simp (disch := omega) only [zi_ui, zi_ui', zl_ui, za_ui, zb_ui, zi_ul, zl_ul, zl_ul', za_ul, zb_ul, zi_ua, zl_ua, zb_ua, za_ua, za_ua', zi_ub, zl_ub, za_ub, zb_ub, zb_ub']; exact h2.2.2.1 k hk
      · simp (disch := omega) only [zi_ui, zi_ui', zl_ui, za_ui, zb_ui, zi_ul, zl_ul, zl_ul', za_ul, zb_ul, zi_ua, zl_ua, zb_ua, za_ua, za_ua', zi_ub, zl_ub, za_ub, zb_ub, zb_ub']; exact h2.2.2.2
  obtain ⟨X2, q1, q2, q3⟩ := pieces_p hg FU 0 _ (hs.fr F1 (by simp) (by intro k _ _; simp)) (hE.fr F1 (by simp) (by intro k _; simp)) hL1 ⟨fun e h => absurd h (by omega), by simp (disch := omega) only [zi_ui, zi_ui', zl_ui, za_ui, zb_ui, zi_ul, zl_ul, zl_ul', za_ul, zb_ul, zi_ua, zl_ua, zb_ua, za_ua, za_ua', zi_ub, zl_ub, za_ub, zb_ub, zb_ub']; rfl, by simp (disch := omega) only [zi_ui, zi_ui', zl_ui, za_ui, zb_ui, zi_ul, zl_ul, zl_ul', za_ul, zb_ul, zi_ua, zl_ua, zb_ua, za_ua, za_ua', zi_ub, zl_ub, za_ub, zb_ub, zb_ub']; rfl, by simp (disch := omega) only [zi_ui, zi_ui', zl_ui, za_ui, zb_ui, zi_ul, zl_ul, zl_ul', za_ul, zb_ul, zi_ua, zl_ua, zb_ua, za_ua, za_ua', zi_ub, zl_ub, za_ub, zb_ub, zb_ub']; rfl⟩ (by omega) (by rw [fu_eq]; omega)
  refine ⟨X2, ?_, (F1.mono (by simp) (by simp) (by simp) (by simp)).tr q2, q3⟩
  unfold f_X5_rebuild
  (repeat first | (with_reducible refine ev_let ?_) | (with_reducible refine ev_rng ?_ ?_ ?_; (first | omega | (simp (disch := omega) only [zi_ui, zi_ui', zl_ui, za_ui, zb_ui, zi_ul, zl_ul, zl_ul', za_ul, zb_ul, zi_ua, zl_ua, zb_ua, za_ua, za_ua', zi_ub, zl_ub, za_ub, zb_ub, zb_ub'] <;> omega)); (first | omega | (simp (disch := omega) only [zi_ui, zi_ui', zl_ui, za_ui, zb_ui, zi_ul, zl_ul, zl_ul', za_ul, zb_ul, zi_ua, zl_ua, zb_ua, za_ua, za_ua', zi_ub, zl_ub, za_ub, zb_ub, zb_ub'] <;> omega))) | (with_reducible refine ev_ins ?_ ?_ ?_; (first | omega | (simp (disch := omega) only [zi_ui, zi_ui', zl_ui, za_ui, zb_ui, zi_ul, zl_ul, zl_ul', za_ul, zb_ul, zi_ua, zl_ua, zb_ua, za_ua, za_ua', zi_ub, zl_ub, za_ub, zb_ub, zb_ub'] <;> omega)); (first | omega | (simp (disch := omega) only [zi_ui, zi_ui', zl_ui, za_ui, zb_ui, zi_ul, zl_ul, zl_ul', za_ul, zb_ul, zi_ua, zl_ua, zb_ua, za_ua, za_ua', zi_ub, zl_ub, za_ub, zb_ub, zb_ub'] <;> omega))) | (with_reducible refine ev_if1 ?_ ?_; (first | omega | (simp (disch := omega) only [zi_ui, zi_ui', zl_ui, za_ui, zb_ui, zi_ul, zl_ul, zl_ul', za_ul, zb_ul, zi_ua, zl_ua, zb_ua, za_ua, za_ua', zi_ub, zl_ub, za_ub, zb_ub, zb_ub'] <;> omega))) | (with_reducible refine ev_if0 ?_ ?_; (first | omega | (simp (disch := omega) only [zi_ui, zi_ui', zl_ui, za_ui, zb_ui, zi_ul, zl_ul, zl_ul', za_ul, zb_ul, zi_ua, zl_ua, zb_ua, za_ua, za_ua', zi_ub, zl_ub, za_ub, zb_ub, zb_ub'] <;> omega))) | (with_reducible refine ev_rnl ?_ ?_ ?_; (first | omega | (simp (disch := omega) only [zi_ui, zi_ui', zl_ui, za_ui, zb_ui, zi_ul, zl_ul, zl_ul', za_ul, zb_ul, zi_ua, zl_ua, zb_ua, za_ua, za_ua', zi_ub, zl_ub, za_ub, zb_ub, zb_ub'] <;> omega)); (first | omega | (simp (disch := omega) only [zi_ui, zi_ui', zl_ui, za_ui, zb_ui, zi_ul, zl_ul, zl_ul', za_ul, zb_ul, zi_ua, zl_ua, zb_ua, za_ua, za_ua', zi_ub, zl_ub, za_ub, zb_ub, zb_ub'] <;> omega))) | (with_reducible refine ev_ne ?_ ?_; (first | omega | (simp (disch := omega) only [zi_ui, zi_ui', zl_ui, za_ui, zb_ui, zi_ul, zl_ul, zl_ul', za_ul, zb_ul, zi_ua, zl_ua, zb_ua, za_ua, za_ua', zi_ub, zl_ub, za_ub, zb_ub, zb_ub'] <;> omega))) | (with_reducible refine ev_01 ?_ ?_; (first | omega | (simp (disch := omega) only [zi_ui, zi_ui', zl_ui, za_ui, zb_ui, zi_ul, zl_ul, zl_ul', za_ul, zb_ul, zi_ua, zl_ua, zb_ua, za_ua, za_ua', zi_ub, zl_ub, za_ub, zb_ub, zb_ub'] <;> omega))))
  exact q1
