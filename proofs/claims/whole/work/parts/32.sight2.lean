def FcOK (c X : SZ) (f : Nat) : Prop := za X 10 f = sw c f ∧ NrOK c X f
def Sight (c X : SZ) : Prop := zi X 8 = zi c 1 ∧ SvOK c X (zi c 0).toNat ∧ HtOK c X (zi c 0).toNat ∧ (∀ f : Nat, (f : Int) < zi c 1 → FcOK c X f) ∧ (∀ f n : Nat, (f : Int) < zi c 1 → (n : Int) < zi c 0 → MgOK c X f n)
theorem sf_in {c : SZ} (hg : Gd c) {P : SZ → Prop} {k128 : SZ → Int → Option SZ} {f : Nat} (hf : (f : Int) < zi c 1) : ∀ (fu n : Nat) (X : SZ), Msh X c → SvOK c X (zi c 0).toNat → FcOK c X f → (n : Int) ≤ zi c 0 → zi c 0 < n + fu → (∀ f2 n2 : Nat, (f2 < f ∧ (n2 : Int) < zi c 0) ∨ (f2 = f ∧ n2 < n) → MgOK c X f2 n2) → (∀ X1, Msh X1 c → Fr [] [8] [] [] X X1 → (∀ f2 n2 : Nat, f2 < f + 1 → (n2 : Int) < zi c 0 → MgOK c X1 f2 n2) → Ok (k128 X1 ((f : Int) + 1)) P) → Ok (f_X6_rebuild_p172 k128 fu X f n) P := by
  have g0 := hg.1
  intro fu
  induction fu with
  | zero => intro n X hm hs hc h1 h2; exact absurd h2 (by omega)
  | succ fu ih =>
    intro n X hm hs hc h1 h2 hp K
    obtain ⟨e0, e1, e2, e3, e4, e5, ex, ey, ez, ec, ew, ev, eb⟩ := id hm
    by_cases hn : (n : Int) = zi c 0
    · obtain ⟨X1, q1, q2⟩ := K X hm (Fr.rf _ _ _ _ X) (fun f2 n2 h3 h4 => hp f2 n2 (by omega))
      refine ⟨X1, ?_, q2⟩
      rw [f_X6_rebuild_p172]
      (repeat first | (with_reducible refine ev_let ?_) | (with_reducible refine ev_rng ?_ ?_ ?_; (first | omega | (simp (disch := omega) only [zi_ui, zi_ui', zl_ui, za_ui, zb_ui, zi_ul, zl_ul, zl_ul', za_ul, zb_ul, zi_ua, zl_ua, zb_ua, za_ua, za_ua', zi_ub, zl_ub, za_ub, zb_ub, zb_ub'] <;> omega)); (first | omega | (simp (disch := omega) only [zi_ui, zi_ui', zl_ui, za_ui, zb_ui, zi_ul, zl_ul, zl_ul', za_ul, zb_ul, zi_ua, zl_ua, zb_ua, za_ua, za_ua', zi_ub, zl_ub, za_ub, zb_ub, zb_ub'] <;> omega))) | (with_reducible refine ev_ins ?_ ?_ ?_; (first | omega | (simp (disch := omega) only [zi_ui, zi_ui', zl_ui, za_ui, zb_ui, zi_ul, zl_ul, zl_ul', za_ul, zb_ul, zi_ua, zl_ua, zb_ua, za_ua, za_ua', zi_ub, zl_ub, za_ub, zb_ub, zb_ub'] <;> omega)); (first | omega | (simp (disch := omega) only [zi_ui, zi_ui', zl_ui, za_ui, zb_ui, zi_ul, zl_ul, zl_ul', za_ul, zb_ul, zi_ua, zl_ua, zb_ua, za_ua, za_ua', zi_ub, zl_ub, za_ub, zb_ub, zb_ub'] <;> omega))) | (with_reducible refine ev_if1 ?_ ?_; (first | omega | (simp (disch := omega) only [zi_ui, zi_ui', zl_ui, za_ui, zb_ui, zi_ul, zl_ul, zl_ul', za_ul, zb_ul, zi_ua, zl_ua, zb_ua, za_ua, za_ua', zi_ub, zl_ub, za_ub, zb_ub, zb_ub'] <;> omega))) | (with_reducible refine ev_if0 ?_ ?_; (first | omega | (simp (disch := omega) only [zi_ui, zi_ui', zl_ui, za_ui, zb_ui, zi_ul, zl_ul, zl_ul', za_ul, zb_ul, zi_ua, zl_ua, zb_ua, za_ua, za_ua', zi_ub, zl_ub, za_ub, zb_ub, zb_ub'] <;> omega))) | (with_reducible refine ev_rnl ?_ ?_ ?_; (first | omega | (simp (disch := omega) only [zi_ui, zi_ui', zl_ui, za_ui, zb_ui, zi_ul, zl_ul, zl_ul', za_ul, zb_ul, zi_ua, zl_ua, zb_ua, za_ua, za_ua', zi_ub, zl_ub, za_ub, zb_ub, zb_ub'] <;> omega)); (first | omega | (simp (disch := omega) only [zi_ui, zi_ui', zl_ui, za_ui, zb_ui, zi_ul, zl_ul, zl_ul', za_ul, zb_ul, zi_ua, zl_ua, zb_ua, za_ua, za_ua', zi_ub, zl_ub, za_ub, zb_ub, zb_ub'] <;> omega))) | (with_reducible refine ev_ne ?_ ?_; (first | omega | (simp (disch := omega) only [zi_ui, zi_ui', zl_ui, za_ui, zb_ui, zi_ul, zl_ul, zl_ul', za_ul, zb_ul, zi_ua, zl_ua, zb_ua, za_ua, za_ua', zi_ub, zl_ub, za_ub, zb_ub, zb_ub'] <;> omega))) | (with_reducible refine ev_01 ?_ ?_; (first | omega | (simp (disch := omega) only [zi_ui, zi_ui', zl_ui, za_ui, zb_ui, zi_ul, zl_ul, zl_ul', za_ul, zb_ul, zi_ua, zl_ua, zb_ua, za_ua, za_ua', zi_ub, zl_ub, za_ub, zb_ub, zb_ub'] <;> omega))))
      exact q1
    · obtain ⟨X1, m1, m2, m3, m4⟩ := margins_e hm hg hs hf (show (n : Int) < zi c 0 by omega) hc.2 hc.1
      have hm1 := msh_fr hm m2 (by simp) (by intro k _ _; simp; omega)
      obtain ⟨X2, q1, q2⟩ := ih (n + 1) X1 hm1 (hs.fr m2 (by decide)) ⟨by rw [m2.2.1 10 _ (by decide)]; exact hc.1, hc.2.fr m2 (by decide)⟩ (by omega) (by omega) (by
        intro f2 n2 h3
        by_cases h4 : f2 = f ∧ n2 = n
        · rw [h4.1, h4.2]; exact m3
        · intro k hk
          rw [m4 _ (by omega)]
          exact hp f2 n2 (by omega) k hk) (fun X2 hm2 hf2 h3 => K X2 hm2 (m2.tr hf2) h3)
      refine ⟨X2, ?_, q2⟩
      rw [f_X6_rebuild_p172]
      (repeat first | (with_reducible refine ev_let ?_) | (with_reducible refine ev_ob2 (m1) ?_) | (with_reducible refine ev_ob1 (m1) ?_) | (with_reducible refine ev_rng ?_ ?_ ?_; (first | omega | (simp (disch := omega) only [zi_ui, zi_ui', zl_ui, za_ui, zb_ui, zi_ul, zl_ul, zl_ul', za_ul, zb_ul, zi_ua, zl_ua, zb_ua, za_ua, za_ua', zi_ub, zl_ub, za_ub, zb_ub, zb_ub'] <;> omega)); (first | omega | (simp (disch := omega) only [zi_ui, zi_ui', zl_ui, za_ui, zb_ui, zi_ul, zl_ul, zl_ul', za_ul, zb_ul, zi_ua, zl_ua, zb_ua, za_ua, za_ua', zi_ub, zl_ub, za_ub, zb_ub, zb_ub'] <;> omega))) | (with_reducible refine ev_ins ?_ ?_ ?_; (first | omega | (simp (disch := omega) only [zi_ui, zi_ui', zl_ui, za_ui, zb_ui, zi_ul, zl_ul, zl_ul', za_ul, zb_ul, zi_ua, zl_ua, zb_ua, za_ua, za_ua', zi_ub, zl_ub, za_ub, zb_ub, zb_ub'] <;> omega)); (first | omega | (simp (disch := omega) only [zi_ui, zi_ui', zl_ui, za_ui, zb_ui, zi_ul, zl_ul, zl_ul', za_ul, zb_ul, zi_ua, zl_ua, zb_ua, za_ua, za_ua', zi_ub, zl_ub, za_ub, zb_ub, zb_ub'] <;> omega))) | (with_reducible refine ev_if1 ?_ ?_; (first | omega | (simp (disch := omega) only [zi_ui, zi_ui', zl_ui, za_ui, zb_ui, zi_ul, zl_ul, zl_ul', za_ul, zb_ul, zi_ua, zl_ua, zb_ua, za_ua, za_ua', zi_ub, zl_ub, za_ub, zb_ub, zb_ub'] <;> omega))) | (with_reducible refine ev_if0 ?_ ?_; (first | omega | (simp (disch := omega) only [zi_ui, zi_ui', zl_ui, za_ui, zb_ui, zi_ul, zl_ul, zl_ul', za_ul, zb_ul, zi_ua, zl_ua, zb_ua, za_ua, za_ua', zi_ub, zl_ub, za_ub, zb_ub, zb_ub'] <;> omega))) | (with_reducible refine ev_rnl ?_ ?_ ?_; (first | omega | (simp (disch := omega) only [zi_ui, zi_ui', zl_ui, za_ui, zb_ui, zi_ul, zl_ul, zl_ul', za_ul, zb_ul, zi_ua, zl_ua, zb_ua, za_ua, za_ua', zi_ub, zl_ub, za_ub, zb_ub, zb_ub'] <;> omega)); (first | omega | (simp (disch := omega) only [zi_ui, zi_ui', zl_ui, za_ui, zb_ui, zi_ul, zl_ul, zl_ul', za_ul, zb_ul, zi_ua, zl_ua, zb_ua, za_ua, za_ua', zi_ub, zl_ub, za_ub, zb_ub, zb_ub'] <;> omega))) | (with_reducible refine ev_ne ?_ ?_; (first | omega | (simp (disch := omega) only [zi_ui, zi_ui', zl_ui, za_ui, zb_ui, zi_ul, zl_ul, zl_ul', za_ul, zb_ul, zi_ua, zl_ua, zb_ua, za_ua, za_ua', zi_ub, zl_ub, za_ub, zb_ub, zb_ub'] <;> omega))) | (with_reducible refine ev_01 ?_ ?_; (first | omega | (simp (disch := omega) only [zi_ui, zi_ui', zl_ui, za_ui, zb_ui, zi_ul, zl_ul, zl_ul', za_ul, zb_ul, zi_ua, zl_ua, zb_ua, za_ua, za_ua', zi_ub, zl_ub, za_ub, zb_ub, zb_ub'] <;> omega))))
      exact q1
theorem sf_out {c : SZ} (hg : Gd c) : ∀ (fu f : Nat) (X : SZ), Msh X c → zi X 8 = zi c 1 → SvOK c X (zi c 0).toNat → HtOK c X (zi c 0).toNat → (f : Int) ≤ zi c 1 → zi c 1 < f + fu → (∀ f2 : Nat, f2 < f → FcOK c X f2) → (∀ f2 n2 : Nat, f2 < f → (n2 : Int) < zi c 0 → MgOK c X f2 n2) → Ok (f_X6_rebuild_p128 fu X f) (fun X1 => Fr [] [7, 8, 10] [] [] X X1 ∧ Sight c X1) := by
  have g0 := hg.1
  have g1 := hg.2.1
  intro fu
  induction fu with
  | zero => intro f X hm h8 hs hh h1 h2; exact absurd h2 (by omega)
  | succ fu ih =>
    intro f X hm h8 hs hh h1 h2 hc hmg
    obtain ⟨e0, e1, e2, e3, e4, e5, ex, ey, ez, ec, ew, ev, eb⟩ := id hm
    by_cases hf : (f : Int) = zi c 1
    · refine ⟨X, ?_, Fr.rf _ _ _ _ X, h8, hs, hh, fun f2 h3 => hc f2 (by omega), fun f2 n2 h3 h4 => hmg f2 n2 (by omega) h4⟩
      rw [f_X6_rebuild_p128]
      (repeat first | (with_reducible refine ev_let ?_) | (with_reducible refine ev_rng ?_ ?_ ?_; (first | omega | (simp (disch := omega) only [zi_ui, zi_ui', zl_ui, za_ui, zb_ui, zi_ul, zl_ul, zl_ul', za_ul, zb_ul, zi_ua, zl_ua, zb_ua, za_ua, za_ua', zi_ub, zl_ub, za_ub, zb_ub, zb_ub'] <;> omega)); (first | omega | (simp (disch := omega) only [zi_ui, zi_ui', zl_ui, za_ui, zb_ui, zi_ul, zl_ul, zl_ul', za_ul, zb_ul, zi_ua, zl_ua, zb_ua, za_ua, za_ua', zi_ub, zl_ub, za_ub, zb_ub, zb_ub'] <;> omega))) | (with_reducible refine ev_ins ?_ ?_ ?_; (first | omega | (simp (disch := omega) only [zi_ui, zi_ui', zl_ui, za_ui, zb_ui, zi_ul, zl_ul, zl_ul', za_ul, zb_ul, zi_ua, zl_ua, zb_ua, za_ua, za_ua', zi_ub, zl_ub, za_ub, zb_ub, zb_ub'] <;> omega)); (first | omega | (simp (disch := omega) only [zi_ui, zi_ui', zl_ui, za_ui, zb_ui, zi_ul, zl_ul, zl_ul', za_ul, zb_ul, zi_ua, zl_ua, zb_ua, za_ua, za_ua', zi_ub, zl_ub, za_ub, zb_ub, zb_ub'] <;> omega))) | (with_reducible refine ev_if1 ?_ ?_; (first | omega | (simp (disch := omega) only [zi_ui, zi_ui', zl_ui, za_ui, zb_ui, zi_ul, zl_ul, zl_ul', za_ul, zb_ul, zi_ua, zl_ua, zb_ua, za_ua, za_ua', zi_ub, zl_ub, za_ub, zb_ub, zb_ub'] <;> omega))) | (with_reducible refine ev_if0 ?_ ?_; (first | omega | (simp (disch := omega) only [zi_ui, zi_ui', zl_ui, za_ui, zb_ui, zi_ul, zl_ul, zl_ul', za_ul, zb_ul, zi_ua, zl_ua, zb_ua, za_ua, za_ua', zi_ub, zl_ub, za_ub, zb_ub, zb_ub'] <;> omega))) | (with_reducible refine ev_rnl ?_ ?_ ?_; (first | omega | (simp (disch := omega) only [zi_ui, zi_ui', zl_ui, za_ui, zb_ui, zi_ul, zl_ul, zl_ul', za_ul, zb_ul, zi_ua, zl_ua, zb_ua, za_ua, za_ua', zi_ub, zl_ub, za_ub, zb_ub, zb_ub'] <;> omega)); (first | omega | (simp (disch := omega) only [zi_ui, zi_ui', zl_ui, za_ui, zb_ui, zi_ul, zl_ul, zl_ul', za_ul, zb_ul, zi_ua, zl_ua, zb_ua, za_ua, za_ua', zi_ub, zl_ub, za_ub, zb_ub, zb_ub'] <;> omega))) | (with_reducible refine ev_ne ?_ ?_; (first | omega | (simp (disch := omega) only [zi_ui, zi_ui', zl_ui, za_ui, zb_ui, zi_ul, zl_ul, zl_ul', za_ul, zb_ul, zi_ua, zl_ua, zb_ua, za_ua, za_ua', zi_ub, zl_ub, za_ub, zb_ub, zb_ub'] <;> omega))) | (with_reducible refine ev_01 ?_ ?_; (first | omega | (simp (disch := omega) only [zi_ui, zi_ui', zl_ui, za_ui, zb_ui, zi_ul, zl_ul, zl_ul', za_ul, zb_ul, zi_ua, zl_ua, zb_ua, za_ua, za_ua', zi_ub, zl_ub, za_ub, zb_ub, zb_ub'] <;> omega))))
      rfl
    · have hf2 : (f : Int) < zi c 1 := by omega
      have c0 := cor_lt hg hf2 (show 0 < 3 by omega)
      have c1 := cor_lt hg hf2 (show 1 < 3 by omega)
      have c2 := cor_lt hg hf2 (show 2 < 3 by omega)
      obtain ⟨X1, n1, n2, n3, n4⟩ := fillNormal_e hm hg hf2
      have hm1 := msh_fr hm n2 (by simp) (by intro k _ _; simp; omega)
      have s0 : f_X4_cornerOf X1 f 0 = some (X1, (cor c f 0 : Int)) := cornerX hm1 hg (f := f) (i := 0) (by omega) (by omega)
      have s1 : f_X4_cornerOf X1 f 1 = some (X1, (cor c f 1 : Int)) := cornerX hm1 hg (f := f) (i := 1) (by omega) (by omega)
      have s2 : f_X4_cornerOf X1 f 2 = some (X1, (cor c f 2 : Int)) := cornerX hm1 hg (f := f) (i := 2) (by omega) (by omega)
      have hs1 := hs.fr n2 (by decide)
      have t0 := turnOf_e hg hs1 c0 c1 c2
      have F1 : Fr [] [10] [] [] X1 (ua X1 10 (f : Int).toNat (sw c f)) := (Fr.rf _ _ _ _ X1).ua (by decide) _ _
      have hm2 := msh_fr hm1 F1 (by simp) (by intro k _ _; simp; omega)
      have hc1 : ∀ f2 : Nat, f2 < f + 1 → FcOK c (ua X1 10 (f : Int).toNat (sw c f)) f2 := by
        intro f2 h3
        by_cases h4 : f2 = f
        · subst h4
          exact ⟨by rw [za_uai, if_pos (by omega)], n3.fr F1 (by decide)⟩
        · refine ⟨?_, ?_⟩
          · rw [za_uai, if_neg (by omega), n2.2.1 10 _ (by decide)]; exact (hc f2 (by omega)).1
          · intro i hi
            rw [F1.2.1 7 _ (by decide), n4 _ (by omega)]
            exact (hc f2 (by omega)).2 i hi
      have hmg1 : ∀ f2 n2 : Nat, f2 < f → (n2 : Int) < zi c 0 → MgOK c (ua X1 10 (f : Int).toNat (sw c f)) f2 n2 := by
        intro f2 n5 h3 h4 k hk
        rw [F1.2.1 8 _ (by decide), n2.2.1 8 _ (by decide)]
        exact hmg f2 n5 h3 h4 k hk
      have key := sf_in (P := fun X2 => Fr [] [7, 8, 10] [] [] X X2 ∧ Sight c X2) (k128 := f_X6_rebuild_p128 fu) hg hf2 FU 0 _ hm2 (hs1.fr F1 (by decide)) (hc1 f (by omega)) (by omega) (by rw [fu_eq]; omega) (by
        intro f2 n5 h3
        exact hmg1 f2 n5 (by omega) (by omega)) (fun X2 hm3 hf3 hmg3 => by
        obtain ⟨X3, q1, q2, q3⟩ := ih (f + 1) X2 hm3 (by rw [hf3.1 8 (by simp), F1.1 8 (by simp), n2.1 8 (by simp)]; exact h8) ((hs1.fr F1 (by decide)).fr hf3 (by decide)) (by
          intro p hp
          rw [hf3.2.1 9 _ (by decide), F1.2.1 9 _ (by decide), n2.2.1 9 _ (by decide)]
          exact hh p hp) (by omega) (by omega) (by
          intro f2 h3
          have := hc1 f2 h3
          exact ⟨by rw [hf3.2.1 10 _ (by decide)]; exact this.1, this.2.fr hf3 (by decide)⟩) hmg3
        exact ⟨X3, q1, (((n2.mono (by simp) (by simp) (by simp) (by simp)).tr (F1.mono (by simp) (by simp) (by simp) (by simp))).tr (hf3.mono (by simp) (by simp) (by simp) (by simp))).tr q2, q3⟩)
      obtain ⟨X3, q1, q2⟩ := key
      refine ⟨X3, ?_, q2⟩
      rw [f_X6_rebuild_p128]
      (repeat first | (with_reducible refine ev_let ?_) | (with_reducible refine ev_ob2 (n1) ?_) | (with_reducible refine ev_ob1 (n1) ?_) | (with_reducible refine ev_ob2 (s0) ?_) | (with_reducible refine ev_ob1 (s0) ?_) | (with_reducible refine ev_ob2 (s1) ?_) | (with_reducible refine ev_ob1 (s1) ?_) | (with_reducible refine ev_ob2 (s2) ?_) | (with_reducible refine ev_ob1 (s2) ?_) | (with_reducible refine ev_ob2 (t0) ?_) | (with_reducible refine ev_ob1 (t0) ?_) | (with_reducible refine ev_rng ?_ ?_ ?_; (first | omega | (simp (disch := omega) only [zi_ui, zi_ui', zl_ui, za_ui, zb_ui, zi_ul, zl_ul, zl_ul', za_ul, zb_ul, zi_ua, zl_ua, zb_ua, za_ua, za_ua', zi_ub, zl_ub, za_ub, zb_ub, zb_ub'] <;> omega)); (first | omega | (simp (disch := omega) only [zi_ui, zi_ui', zl_ui, za_ui, zb_ui, zi_ul, zl_ul, zl_ul', za_ul, zb_ul, zi_ua, zl_ua, zb_ua, za_ua, za_ua', zi_ub, zl_ub, za_ub, zb_ub, zb_ub'] <;> omega))) | (with_reducible refine ev_ins ?_ ?_ ?_; (first | omega | (simp (disch := omega) only [zi_ui, zi_ui', zl_ui, za_ui, zb_ui, zi_ul, zl_ul, zl_ul', za_ul, zb_ul, zi_ua, zl_ua, zb_ua, za_ua, za_ua', zi_ub, zl_ub, za_ub, zb_ub, zb_ub'] <;> omega)); (first | omega | (simp (disch := omega) only [zi_ui, zi_ui', zl_ui, za_ui, zb_ui, zi_ul, zl_ul, zl_ul', za_ul, zb_ul, zi_ua, zl_ua, zb_ua, za_ua, za_ua', zi_ub, zl_ub, za_ub, zb_ub, zb_ub'] <;> omega))) | (with_reducible refine ev_if1 ?_ ?_; (first | omega | (simp (disch := omega) only [zi_ui, zi_ui', zl_ui, za_ui, zb_ui, zi_ul, zl_ul, zl_ul', za_ul, zb_ul, zi_ua, zl_ua, zb_ua, za_ua, za_ua', zi_ub, zl_ub, za_ub, zb_ub, zb_ub'] <;> omega))) | (with_reducible refine ev_if0 ?_ ?_; (first | omega | (simp (disch := omega) only [zi_ui, zi_ui', zl_ui, za_ui, zb_ui, zi_ul, zl_ul, zl_ul', za_ul, zb_ul, zi_ua, zl_ua, zb_ua, za_ua, za_ua', zi_ub, zl_ub, za_ub, zb_ub, zb_ub'] <;> omega))) | (with_reducible refine ev_rnl ?_ ?_ ?_; (first | omega | (simp (disch := omega) only [zi_ui, zi_ui', zl_ui, za_ui, zb_ui, zi_ul, zl_ul, zl_ul', za_ul, zb_ul, zi_ua, zl_ua, zb_ua, za_ua, za_ua', zi_ub, zl_ub, za_ub, zb_ub, zb_ub'] <;> omega)); (first | omega | (simp (disch := omega) only [zi_ui, zi_ui', zl_ui, za_ui, zb_ui, zi_ul, zl_ul, zl_ul', za_ul, zb_ul, zi_ua, zl_ua, zb_ua, za_ua, za_ua', zi_ub, zl_ub, za_ub, zb_ub, zb_ub'] <;> omega))) | (with_reducible refine ev_ne ?_ ?_; (first | omega | (simp (disch := omega) only [zi_ui, zi_ui', zl_ui, za_ui, zb_ui, zi_ul, zl_ul, zl_ul', za_ul, zb_ul, zi_ua, zl_ua, zb_ua, za_ua, za_ua', zi_ub, zl_ub, za_ub, zb_ub, zb_ub'] <;> omega))) | (with_reducible refine ev_01 ?_ ?_; (first | omega | (simp (disch := omega) only [zi_ui, zi_ui', zl_ui, za_ui, zb_ui, zi_ul, zl_ul, zl_ul', za_ul, zb_ul, zi_ua, zl_ua, zb_ua, za_ua, za_ua', zi_ub, zl_ub, za_ub, zb_ub, zb_ub'] <;> omega))))
      exact q1
theorem sight_e {c X : SZ} (hm : Msh X c) (hg : Gd c) : Ok (f_X6_rebuild X) (fun X1 => Fr [8] [6, 7, 8, 9, 10] [] [] X X1 ∧ Sight c X1) := by
  have g0 := hg.1
  have g1 := hg.2.1
  obtain ⟨e0, e1, e2, e3, e4, e5, ex, ey, ez, ec, ew, ev, eb⟩ := id hm
  have F0 : Fr [8] [6, 7, 8, 9, 10] [] [] X (ui X 8 (zi X 3)) := (Fr.rf _ _ _ _ X).ui (by decide) _
  have hm0 := msh_fr hm F0 (by intro k _ _; simp; omega) (by intro k _ _; simp; omega)
  have key := sw_out (P := fun X1 => Fr [8] [6, 7, 8, 9, 10] [] [] X X1 ∧ Sight c X1) hg FU 0 _ hm0 (by omega) (by rw [fu_eq]; omega) (fun p q h => absurd h (by omega)) (fun p h => absurd h (by omega)) (fun X1 hm1 hf1 hs1 hh1 => by
    obtain ⟨X2, q1, q2, q3⟩ := sf_out hg FU 0 X1 hm1 (by rw [hf1.1 8 (by simp), zi_ui]; exact e1) hs1 hh1 (by omega) (by rw [fu_eq]; omega) (fun f h => absurd h (by omega)) (fun f n h => absurd h (by omega))
    exact ⟨X2, q1, (F0.tr (hf1.mono (by simp) (by simp) (by simp) (by simp))).tr (q2.mono (by simp) (by simp) (by simp) (by simp)), q3⟩)
  exact key
theorem Sight.fr {c X X1 : SZ} (h : Sight c X) {li la ll lb : List Nat} (hf : Fr li la ll lb X X1) (h8 : 8 ∉ li) (ha : ∀ k, 6 ≤ k → k ≤ 10 → k ∉ la) : Sight c X1 := by
  obtain ⟨h1, h2, h3, h4, h5⟩ := h
  refine ⟨by rw [hf.1 8 h8]; exact h1, h2.fr hf (ha 6 (by omega) (by omega)), fun p hp => by rw [hf.2.1 9 _ (ha 9 (by omega) (by omega))]; exact h3 p hp, fun f hf2 => ⟨by rw [hf.2.1 10 _ (ha 10 (by omega) (by omega))]; exact (h4 f hf2).1, (h4 f hf2).2.fr hf (ha 7 (by omega) (by omega))⟩, fun f n hf2 hn k hk => by rw [hf.2.1 8 _ (ha 8 (by omega) (by omega))]; exact h5 f n hf2 hn k hk⟩
