theorem ms_point {X M : SZ} (hm : Msh X M) (hg : Gd M) {x y z : Int} (r1 : rng x) (r2 : rng y) (r3 : rng z) : Mstep X M (f_X8_point X x y z) (f_X9_point M x y z) := by
  obtain ⟨e0, e1, e2, e3, e4, e5, ex, ey, ez, ec, ew, ev, eb⟩ := id hm
  obtain ⟨g0, g1, g2, g3, gp, gc, gf, gw, gv⟩ := id hg
  unfold f_X8_point f_X9_point
  by_cases hp : plc x y z
  · obtain ⟨r, q1, q2, q3⟩ := pointAt_eq hm hg r1 r2 r3
    have s1 := X8_isPlace_1 X hp
    have s2 := X9_isPlace_1 M hp
    obtain ⟨⟨h1, h2⟩, ⟨h3, h4⟩, h5, h6⟩ := id hp
    by_cases hr : r = -9
    · by_cases hf : zi M 0 = 16
      · refine ⟨X, M, -4, ?_, ?_, Or.inl ⟨rfl, rfl⟩⟩
        · simp (disch := omega) only [chk_tr, chk_rng, chk_rnl, chk_ins, chk_ne, chk_01, olet_e, ob1_s, ob2_s, if_pos, if_neg, if_true, if_false, Int.add_zero, true_or, or_true, zi_ui, zi_ui', zl_ui, za_ui, zb_ui, zi_ul, zl_ul, zl_ul', za_ul, zb_ul, zi_ua, zl_ua, zb_ua, za_ua, za_ua', zi_ub, zl_ub, za_ub, zb_ub, zb_ub', s1, q1, e0]
        · simp (disch := omega) only [chk_tr, chk_rng, chk_rnl, chk_ins, chk_ne, chk_01, olet_e, ob1_s, ob2_s, if_pos, if_neg, if_true, if_false, Int.add_zero, true_or, or_true, zi_ui, zi_ui', zl_ui, za_ui, zb_ui, zi_ul, zl_ul, zl_ul', za_ul, zb_ul, zi_ua, zl_ua, zb_ua, za_ua, za_ua', zi_ub, zl_ub, za_ub, zb_ub, zb_ub', s2, q2]
      · refine ⟨ui (ua (ua (ua (ui (ui X 0 0) 1 (-9)) 1 (zi M 0).toNat x) 2 (zi M 0).toNat y) 3 (zi M 0).toNat z) 2 (zi M 0 + 1), ui (ui (ua (ua (ua M 0 (zi M 0).toNat x) 1 (zi M 0).toNat y) 2 (zi M 0).toNat z) 0 (zi M 0 + 1)) 6 0, zi M 0 + 1 - 1, ?_, ?_, Or.inr ⟨?_, ?_, ?_⟩⟩
        · unfold f_X4_addPoint f_X4_put; simp (disch := omega) only [chk_tr, chk_rng, chk_rnl, chk_ins, chk_ne, chk_01, olet_e, ob1_s, ob2_s, if_pos, if_neg, if_true, if_false, Int.add_zero, true_or, or_true, zi_ui, zi_ui', zl_ui, za_ui, zb_ui, zi_ul, zl_ul, zl_ul', za_ul, zb_ul, zi_ua, zl_ua, zb_ua, za_ua, za_ua', zi_ub, zl_ub, za_ub, zb_ub, zb_ub', s1, q1, e0, X8_forget_e]
        · unfold f_X9_comes; simp (disch := omega) only [chk_tr, chk_rng, chk_rnl, chk_ins, chk_ne, chk_01, olet_e, ob1_s, ob2_s, if_pos, if_neg, if_true, if_false, Int.add_zero, true_or, or_true, zi_ui, zi_ui', zl_ui, za_ui, zb_ui, zi_ul, zl_ul, zl_ul', za_ul, zb_ul, zi_ua, zl_ua, zb_ua, za_ua, za_ua', zi_ub, zl_ub, za_ub, zb_ub, zb_ub', s2, q2]
        · refine ⟨?_, ?_, ?_, ?_, ?_, ?_, ?_, ?_, ?_, ?_, ?_, ?_, ?_⟩
          · simp (disch := omega) only [zi_ui, zi_ui', zl_ui, za_ui, zb_ui, zi_ul, zl_ul, zl_ul', za_ul, zb_ul, zi_ua, zl_ua, zb_ua, za_ua, za_ua', zi_ub, zl_ub, za_ub, zb_ub, zb_ub']
          · simp (disch := omega) only [zi_ui, zi_ui', zl_ui, za_ui, zb_ui, zi_ul, zl_ul, zl_ul', za_ul, zb_ul, zi_ua, zl_ua, zb_ua, za_ua, za_ua', zi_ub, zl_ub, za_ub, zb_ub, zb_ub']; exact e1
          · simp (disch := omega) only [zi_ui, zi_ui', zl_ui, za_ui, zb_ui, zi_ul, zl_ul, zl_ul', za_ul, zb_ul, zi_ua, zl_ua, zb_ua, za_ua, za_ua', zi_ub, zl_ub, za_ub, zb_ub, zb_ub']; exact e2
          · simp (disch := omega) only [zi_ui, zi_ui', zl_ui, za_ui, zb_ui, zi_ul, zl_ul, zl_ul', za_ul, zb_ul, zi_ua, zl_ua, zb_ua, za_ua, za_ua', zi_ub, zl_ub, za_ub, zb_ub, zb_ub']; exact e3
          · simp (disch := omega) only [zi_ui, zi_ui', zl_ui, za_ui, zb_ui, zi_ul, zl_ul, zl_ul', za_ul, zb_ul, zi_ua, zl_ua, zb_ua, za_ua, za_ua', zi_ub, zl_ub, za_ub, zb_ub, zb_ub']; exact e4
          · simp (disch := omega) only [zi_ui, zi_ui', zl_ui, za_ui, zb_ui, zi_ul, zl_ul, zl_ul', za_ul, zb_ul, zi_ua, zl_ua, zb_ua, za_ua, za_ua', zi_ub, zl_ub, za_ub, zb_ub, zb_ub']; exact e5
          · intro j; simp (disch := omega) only [zi_ui, zi_ui', zl_ui, za_ui, zb_ui, zi_ul, zl_ul, zl_ul', za_ul, zb_ul, zi_ua, zl_ua, zb_ua, za_ua, za_ua', zi_ub, zl_ub, za_ub, zb_ub, zb_ub', za_uai, ex]
          · intro j; simp (disch := omega) only [zi_ui, zi_ui', zl_ui, za_ui, zb_ui, zi_ul, zl_ul, zl_ul', za_ul, zb_ul, zi_ua, zl_ua, zb_ua, za_ua, za_ua', zi_ub, zl_ub, za_ub, zb_ub, zb_ub', za_uai, ey]
          · intro j; simp (disch := omega) only [zi_ui, zi_ui', zl_ui, za_ui, zb_ui, zi_ul, zl_ul, zl_ul', za_ul, zb_ul, zi_ua, zl_ua, zb_ua, za_ua, za_ua', zi_ub, zl_ub, za_ub, zb_ub, zb_ub', za_uai, ez]
          · intro j; simp (disch := omega) only [zi_ui, zi_ui', zl_ui, za_ui, zb_ui, zi_ul, zl_ul, zl_ul', za_ul, zb_ul, zi_ua, zl_ua, zb_ua, za_ua, za_ua', zi_ub, zl_ub, za_ub, zb_ub, zb_ub']; exact ec j
          · intro j; simp (disch := omega) only [zi_ui, zi_ui', zl_ui, za_ui, zb_ui, zi_ul, zl_ul, zl_ul', za_ul, zb_ul, zi_ua, zl_ua, zb_ua, za_ua, za_ua', zi_ub, zl_ub, za_ub, zb_ub, zb_ub']; exact ew j
          · intro j; simp (disch := omega) only [zi_ui, zi_ui', zl_ui, za_ui, zb_ui, zi_ul, zl_ul, zl_ul', za_ul, zb_ul, zi_ua, zl_ua, zb_ua, za_ua, za_ua', zi_ub, zl_ub, za_ub, zb_ub, zb_ub']; exact ev j
          · intro j; simp (disch := omega) only [zi_ui, zi_ui', zl_ui, za_ui, zb_ui, zi_ul, zl_ul, zl_ul', za_ul, zb_ul, zi_ua, zl_ua, zb_ua, za_ua, za_ua', zi_ub, zl_ub, za_ub, zb_ub, zb_ub']; exact eb j
        · refine ⟨?_, ?_, ?_, ?_, ?_, ?_, ?_, ?_, ?_⟩
          · simp (disch := omega) only [zi_ui, zi_ui', zl_ui, za_ui, zb_ui, zi_ul, zl_ul, zl_ul', za_ul, zb_ul, zi_ua, zl_ua, zb_ua, za_ua, za_ua', zi_ub, zl_ub, za_ub, zb_ub, zb_ub']; omega
          · simp (disch := omega) only [zi_ui, zi_ui', zl_ui, za_ui, zb_ui, zi_ul, zl_ul, zl_ul', za_ul, zb_ul, zi_ua, zl_ua, zb_ua, za_ua, za_ua', zi_ub, zl_ub, za_ub, zb_ub, zb_ub']; exact g1
          · simp (disch := omega) only [zi_ui, zi_ui', zl_ui, za_ui, zb_ui, zi_ul, zl_ul, zl_ul', za_ul, zb_ul, zi_ua, zl_ua, zb_ua, za_ua, za_ua', zi_ub, zl_ub, za_ub, zb_ub, zb_ub']; exact g2
          · simp (disch := omega) only [zi_ui, zi_ui', zl_ui, za_ui, zb_ui, zi_ul, zl_ul, zl_ul', za_ul, zb_ul, zi_ua, zl_ua, zb_ua, za_ua, za_ua', zi_ub, zl_ub, za_ub, zb_ub, zb_ub']; exact g3
          · intro j
            have := gp j
            simp (disch := omega) only [zi_ui, zi_ui', zl_ui, za_ui, zb_ui, zi_ul, zl_ul, zl_ul', za_ul, zb_ul, zi_ua, zl_ua, zb_ua, za_ua, za_ua', zi_ub, zl_ub, za_ub, zb_ub, zb_ub', za_uai]
            refine ⟨?_, ?_, ?_⟩ <;> split <;> omega
          · simp (disch := omega) only [zi_ui, zi_ui', zl_ui, za_ui, zb_ui, zi_ul, zl_ul, zl_ul', za_ul, zb_ul, zi_ua, zl_ua, zb_ua, za_ua, za_ua', zi_ub, zl_ub, za_ub, zb_ub, zb_ub']; exact gc
          · intro f hf2
            simp (disch := omega) only [zi_ui, zi_ui', zi_ua] at hf2
            have := gf f hf2
            simp (disch := omega) only [zi_ui, zi_ui', zl_ui, za_ui, zb_ui, zi_ul, zl_ul, zl_ul', za_ul, zb_ul, zi_ua, zl_ua, zb_ua, za_ua, za_ua', zi_ub, zl_ub, za_ub, zb_ub, zb_ub']; omega
          · simp (disch := omega) only [zi_ui, zi_ui', zl_ui, za_ui, zb_ui, zi_ul, zl_ul, zl_ul', za_ul, zb_ul, zi_ua, zl_ua, zb_ua, za_ua, za_ua', zi_ub, zl_ub, za_ub, zb_ub, zb_ub']; exact gw
          · intro f hf2
            simp (disch := omega) only [zi_ui, zi_ui', zi_ua] at hf2
            have := gv f hf2
            simp (disch := omega) only [zi_ui, zi_ui', zl_ui, za_ui, zb_ui, zi_ul, zl_ul, zl_ul', za_ul, zb_ul, zi_ua, zl_ua, zb_ua, za_ua, za_ua', zi_ub, zl_ub, za_ub, zb_ub, zb_ub']; omega
        · refine ⟨?_, ?_, ?_⟩ <;> simp (disch := omega) only [zi_ui, zi_ui', zl_ui, za_ui, zb_ui, zi_ul, zl_ul, zl_ul', za_ul, zb_ul, zi_ua, zl_ua, zb_ua, za_ua, za_ua', zi_ub, zl_ub, za_ub, zb_ub, zb_ub']
    · have hr0 : 0 ≤ r ∧ r < zi M 0 := by rcases q3 with h | ⟨h, h2, -⟩; exact absurd h hr; exact ⟨h, h2⟩
      refine ⟨X, M, -3, ?_, ?_, Or.inl ⟨rfl, rfl⟩⟩
      · simp (disch := omega) only [chk_tr, chk_rng, chk_rnl, chk_ins, chk_ne, chk_01, olet_e, ob1_s, ob2_s, if_pos, if_neg, if_true, if_false, Int.add_zero, true_or, or_true, zi_ui, zi_ui', zl_ui, za_ui, zb_ui, zi_ul, zl_ul, zl_ul', za_ul, zb_ul, zi_ua, zl_ua, zb_ua, za_ua, za_ua', zi_ub, zl_ub, za_ub, zb_ub, zb_ub', s1, q1, e0]
      · simp (disch := omega) only [chk_tr, chk_rng, chk_rnl, chk_ins, chk_ne, chk_01, olet_e, ob1_s, ob2_s, if_pos, if_neg, if_true, if_false, Int.add_zero, true_or, or_true, zi_ui, zi_ui', zl_ui, za_ui, zb_ui, zi_ul, zl_ul, zl_ul', za_ul, zb_ul, zi_ua, zl_ua, zb_ua, za_ua, za_ua', zi_ub, zl_ub, za_ub, zb_ub, zb_ub', s2, q2]
  · have s1 := X8_isPlace_0 X r1 r2 r3 hp
    have s2 := X9_isPlace_0 M r1 r2 r3 hp
    refine ⟨X, M, -2, ?_, ?_, Or.inl ⟨rfl, rfl⟩⟩
    · simp (disch := omega) only [chk_tr, chk_rng, chk_rnl, chk_ins, chk_ne, chk_01, olet_e, ob1_s, ob2_s, if_pos, if_neg, if_true, if_false, Int.add_zero, true_or, or_true, zi_ui, zi_ui', zl_ui, za_ui, zb_ui, zi_ul, zl_ul, zl_ul', za_ul, zb_ul, zi_ua, zl_ua, zb_ua, za_ua, za_ua', zi_ub, zl_ub, za_ub, zb_ub, zb_ub', s1]
    · simp (disch := omega) only [chk_tr, chk_rng, chk_rnl, chk_ins, chk_ne, chk_01, olet_e, ob1_s, ob2_s, if_pos, if_neg, if_true, if_false, Int.add_zero, true_or, or_true, zi_ui, zi_ui', zl_ui, za_ui, zb_ui, zi_ul, zl_ul, zl_ul', za_ul, zb_ul, zi_ua, zl_ua, zb_ua, za_ua, za_ua', zi_ub, zl_ub, za_ub, zb_ub, zb_ub', s2]
/-! corners of faces -/
def hcP (M : SZ) (f n : Int) : Prop := za M 3 (3 * f).toNat = n ∨ za M 3 (3 * f + 1).toNat = n ∨ za M 3 (3 * f + 2).toNat = n
theorem X4_cornerOf_e {X M : SZ} (ec : ∀ j, za X 4 j = za M 3 j) {f i : Int} (h1 : 0 ≤ 3 * f + i) (h2 : 3 * f + i < 72) : f_X4_cornerOf X f i = some (X, za M 3 (3 * f + i).toNat) := by
  unfold f_X4_cornerOf; simp (disch := omega) only [chk_tr, chk_rng, chk_rnl, chk_ins, chk_ne, chk_01, olet_e, ob1_s, ob2_s, if_pos, if_neg, if_true, if_false, Int.add_zero, true_or, or_true, ec]
theorem X4_hasCorner_1 {X M : SZ} (ec : ∀ j, za X 4 j = za M 3 j) (gc : ∀ j, 0 ≤ za M 3 j ∧ za M 3 j < 16) {f n : Int} (h1 : 0 ≤ f) (h2 : f < 24) (h3 : hcP M f n) : f_X4_hasCorner X f n = some (X, 1) := by
  have c0 := gc (3 * f).toNat
  have c1 := gc (3 * f + 1).toNat
  have c2 := gc (3 * f + 2).toNat
  unfold hcP at h3
  unfold f_X4_hasCorner
  by_cases q0 : za M 3 (3 * f).toNat = n
  · simp (disch := omega) only [chk_tr, chk_rng, chk_rnl, chk_ins, chk_ne, chk_01, olet_e, ob1_s, ob2_s, if_pos, if_neg, if_true, if_false, Int.add_zero, true_or, or_true, X4_cornerOf_e ec]
  by_cases q1 : za M 3 (3 * f + 1).toNat = n
  · simp (disch := omega) only [chk_tr, chk_rng, chk_rnl, chk_ins, chk_ne, chk_01, olet_e, ob1_s, ob2_s, if_pos, if_neg, if_true, if_false, Int.add_zero, true_or, or_true, X4_cornerOf_e ec]
  simp (disch := omega) only [chk_tr, chk_rng, chk_rnl, chk_ins, chk_ne, chk_01, olet_e, ob1_s, ob2_s, if_pos, if_neg, if_true, if_false, Int.add_zero, true_or, or_true, X4_cornerOf_e ec]
theorem X4_hasCorner_0 {X M : SZ} (ec : ∀ j, za X 4 j = za M 3 j) (gc : ∀ j, 0 ≤ za M 3 j ∧ za M 3 j < 16) {f n : Int} (h1 : 0 ≤ f) (h2 : f < 24) (r1 : -2147483648 ≤ n) (r2 : n < 2147483648) (h3 : ¬ hcP M f n) : f_X4_hasCorner X f n = some (X, 0) := by
  have c0 := gc (3 * f).toNat
  have c1 := gc (3 * f + 1).toNat
  have c2 := gc (3 * f + 2).toNat
  unfold hcP at h3
  unfold f_X4_hasCorner
  simp (disch := omega) only [chk_tr, chk_rng, chk_rnl, chk_ins, chk_ne, chk_01, olet_e, ob1_s, ob2_s, if_pos, if_neg, if_true, if_false, Int.add_zero, true_or, or_true, X4_cornerOf_e ec]
theorem X9_hasCorner_1 {M : SZ} (gc : ∀ j, 0 ≤ za M 3 j ∧ za M 3 j < 16) {f n : Int} (h1 : 0 ≤ f) (h2 : f < 24) (h3 : hcP M f n) : f_X9_hasCorner M f n = some (M, 1) := by
  have c0 := gc (3 * f).toNat
  have c1 := gc (3 * f + 1).toNat
  have c2 := gc (3 * f + 2).toNat
  unfold hcP at h3
  unfold f_X9_hasCorner
  by_cases q0 : za M 3 (3 * f).toNat = n
  · simp (disch := omega) only [chk_tr, chk_rng, chk_rnl, chk_ins, chk_ne, chk_01, olet_e, ob1_s, ob2_s, if_pos, if_neg, if_true, if_false, Int.add_zero, true_or, or_true]
  by_cases q1 : za M 3 (3 * f + 1).toNat = n
  · simp (disch := omega) only [chk_tr, chk_rng, chk_rnl, chk_ins, chk_ne, chk_01, olet_e, ob1_s, ob2_s, if_pos, if_neg, if_true, if_false, Int.add_zero, true_or, or_true]
  simp (disch := omega) only [chk_tr, chk_rng, chk_rnl, chk_ins, chk_ne, chk_01, olet_e, ob1_s, ob2_s, if_pos, if_neg, if_true, if_false, Int.add_zero, true_or, or_true]
theorem X9_hasCorner_0 {M : SZ} (gc : ∀ j, 0 ≤ za M 3 j ∧ za M 3 j < 16) {f n : Int} (h1 : 0 ≤ f) (h2 : f < 24) (r1 : -2147483648 ≤ n) (r2 : n < 2147483648) (h3 : ¬ hcP M f n) : f_X9_hasCorner M f n = some (M, 0) := by
  have c0 := gc (3 * f).toNat
  have c1 := gc (3 * f + 1).toNat
  have c2 := gc (3 * f + 2).toNat
  unfold hcP at h3
  unfold f_X9_hasCorner
  simp (disch := omega) only [chk_tr, chk_rng, chk_rnl, chk_ins, chk_ne, chk_01, olet_e, ob1_s, ob2_s, if_pos, if_neg, if_true, if_false, Int.add_zero, true_or, or_true]
theorem hasFace_rel {X M : SZ} (hm : Msh X M) (hg : Gd M) {x y z : Int} (r1 : rng x) (r2 : rng y) (r3 : rng z) : ∀ (fu : Nat) (k : Int), 0 ≤ k → k ≤ zi M 1 → zi M 1 < k + fu → ∃ r : Int, f_X4_hasFaceOn_p3 fu X x y z k = some (X, r) ∧ f_X9_isFaceOf_p3 fu M x y z k = some (M, r) ∧ (r = 0 ∨ (r = 1 ∧ ∃ f, k ≤ f ∧ f < zi M 1 ∧ hcP M f x ∧ hcP M f y ∧ hcP M f z)) := by
  obtain ⟨e0, e1, e2, e3, e4, e5, ex, ey, ez, ec, ew, ev, eb⟩ := id hm
  obtain ⟨g0, g1, g2, g3, gp, gc, gf, gw, gv⟩ := id hg
  obtain ⟨a1, b1⟩ := r1
  obtain ⟨a2, b2⟩ := r2
  obtain ⟨a3, b3⟩ := r3
  intro fu
  induction fu with
  | zero => intro k h1 h2 h3; exact absurd h3 (by omega)
  | succ fu ih =>
    intro k h1 h2 h3
    rw [f_X4_hasFaceOn_p3, f_X9_isFaceOf_p3]
    by_cases hk : zi M 1 ≤ k
    · refine ⟨0, ?_, ?_, Or.inl rfl⟩
      · simp (disch := omega) only [chk_tr, chk_rng, chk_rnl, chk_ins, chk_ne, chk_01, olet_e, ob1_s, ob2_s, if_pos, if_neg, if_true, if_false, Int.add_zero, true_or, or_true, e1]
      · simp (disch := omega) only [chk_tr, chk_rng, chk_rnl, chk_ins, chk_ne, chk_01, olet_e, ob1_s, ob2_s, if_pos, if_neg, if_true, if_false, Int.add_zero, true_or, or_true]
    · obtain ⟨r, i1, i2, i3⟩ := ih (k + 1) (by omega) (by omega) (by omega)
      have i4 : r = 0 ∨ (r = 1 ∧ ∃ f, k ≤ f ∧ f < zi M 1 ∧ hcP M f x ∧ hcP M f y ∧ hcP M f z) := by
        rcases i3 with h | ⟨h, f, h4, h5⟩
        · exact Or.inl h
        · exact Or.inr ⟨h, f, by omega, h5⟩
      by_cases q1 : hcP M k x
      · have s1 := X4_hasCorner_1 ec gc h1 (by omega) q1
        have t1 := X9_hasCorner_1 gc h1 (by omega) q1
        by_cases q2 : hcP M k y
        · have s2 := X4_hasCorner_1 ec gc h1 (by omega) q2
          have t2 := X9_hasCorner_1 gc h1 (by omega) q2
          by_cases q3 : hcP M k z
          · have s3 := X4_hasCorner_1 ec gc h1 (by omega) q3
            have t3 := X9_hasCorner_1 gc h1 (by omega) q3
            refine ⟨1, ?_, ?_, Or.inr ⟨rfl, k, by omega, by omega, q1, q2, q3⟩⟩
            · simp (disch := omega) only [chk_tr, chk_rng, chk_rnl, chk_ins, chk_ne, chk_01, olet_e, ob1_s, ob2_s, if_pos, if_neg, if_true, if_false, Int.add_zero, true_or, or_true, e1, s1, s2, s3]
            · simp (disch := omega) only [chk_tr, chk_rng, chk_rnl, chk_ins, chk_ne, chk_01, olet_e, ob1_s, ob2_s, if_pos, if_neg, if_true, if_false, Int.add_zero, true_or, or_true, t1, t2, t3]
          · have s3 := X4_hasCorner_0 ec gc h1 (by omega) a3 b3 q3
            have t3 := X9_hasCorner_0 gc h1 (by omega) a3 b3 q3
            refine ⟨r, ?_, ?_, i4⟩
            · simp (disch := omega) only [chk_tr, chk_rng, chk_rnl, chk_ins, chk_ne, chk_01, olet_e, ob1_s, ob2_s, if_pos, if_neg, if_true, if_false, Int.add_zero, true_or, or_true, e1, s1, s2, s3]; exact i1
            · simp (disch := omega) only [chk_tr, chk_rng, chk_rnl, chk_ins, chk_ne, chk_01, olet_e, ob1_s, ob2_s, if_pos, if_neg, if_true, if_false, Int.add_zero, true_or, or_true, t1, t2, t3]; exact i2
        · have s2 := X4_hasCorner_0 ec gc h1 (by omega) a2 b2 q2
          have t2 := X9_hasCorner_0 gc h1 (by omega) a2 b2 q2
          refine ⟨r, ?_, ?_, i4⟩
          · simp (disch := omega) only [chk_tr, chk_rng, chk_rnl, chk_ins, chk_ne, chk_01, olet_e, ob1_s, ob2_s, if_pos, if_neg, if_true, if_false, Int.add_zero, true_or, or_true, e1, s1, s2]; exact i1
          · simp (disch := omega) only [chk_tr, chk_rng, chk_rnl, chk_ins, chk_ne, chk_01, olet_e, ob1_s, ob2_s, if_pos, if_neg, if_true, if_false, Int.add_zero, true_or, or_true, t1, t2]; exact i2
      · have s1 := X4_hasCorner_0 ec gc h1 (by omega) a1 b1 q1
        have t1 := X9_hasCorner_0 gc h1 (by omega) a1 b1 q1
        refine ⟨r, ?_, ?_, i4⟩
        · simp (disch := omega) only [chk_tr, chk_rng, chk_rnl, chk_ins, chk_ne, chk_01, olet_e, ob1_s, ob2_s, if_pos, if_neg, if_true, if_false, Int.add_zero, true_or, or_true, e1, s1]; exact i1
        · simp (disch := omega) only [chk_tr, chk_rng, chk_rnl, chk_ins, chk_ne, chk_01, olet_e, ob1_s, ob2_s, if_pos, if_neg, if_true, if_false, Int.add_zero, true_or, or_true, t1]; exact i2
theorem hasFace_eq {X M : SZ} (hm : Msh X M) (hg : Gd M) {x y z : Int} (r1 : rng x) (r2 : rng y) (r3 : rng z) : ∃ r : Int, f_X4_hasFaceOn X x y z = some (X, r) ∧ f_X9_isFaceOf M x y z = some (M, r) ∧ (r = 0 ∨ (r = 1 ∧ ∃ f, 0 ≤ f ∧ f < zi M 1 ∧ hcP M f x ∧ hcP M f y ∧ hcP M f z)) :=
  hasFace_rel hm hg r1 r2 r3 FU 0 (by omega) hg.2.1.1 (by have := hg.2.1.2; rw [fu_eq]; omega)
theorem mb {x y A B : Int} (h1 : -A ≤ x) (h2 : x ≤ A) (h3 : -B ≤ y) (h4 : y ≤ B) : -(A * B) ≤ x * y ∧ x * y ≤ A * B := by
  have p1 := Int.mul_nonneg (show 0 ≤ A - x by omega) (show 0 ≤ B - y by omega)
  have p2 := Int.mul_nonneg (show 0 ≤ A + x by omega) (show 0 ≤ B + y by omega)
  have p3 := Int.mul_nonneg (show 0 ≤ A - x by omega) (show 0 ≤ B + y by omega)
  have p4 := Int.mul_nonneg (show 0 ≤ A + x by omega) (show 0 ≤ B - y by omega)
  simp only [Int.sub_mul, Int.mul_sub, Int.add_mul, Int.mul_add] at p1 p2 p3 p4
  omega
theorem X4_hasPoint_1 {X : SZ} {n : Int} (h1 : 0 ≤ n) (h2 : n < zi X 2) (h3 : zi X 2 ≤ 16) : f_X4_hasPoint X n = some (X, 1) := by
  unfold f_X4_hasPoint; simp (disch := omega) only [chk_tr, chk_rng, chk_rnl, chk_ins, chk_ne, chk_01, olet_e, ob1_s, ob2_s, if_pos, if_neg, if_true, if_false, Int.add_zero, true_or, or_true]
theorem X4_hasPoint_0 {X : SZ} {n : Int} (r : rng n) (h0 : 0 ≤ zi X 2) (h3 : zi X 2 ≤ 16) (h : ¬ (0 ≤ n ∧ n < zi X 2)) : f_X4_hasPoint X n = some (X, 0) := by
  obtain ⟨a, b⟩ := r
  unfold f_X4_hasPoint
  by_cases q : n < 0
  · simp (disch := omega) only [chk_tr, chk_rng, chk_rnl, chk_ins, chk_ne, chk_01, olet_e, ob1_s, ob2_s, if_pos, if_neg, if_true, if_false, Int.add_zero, true_or, or_true]
  · simp (disch := omega) only [chk_tr, chk_rng, chk_rnl, chk_ins, chk_ne, chk_01, olet_e, ob1_s, ob2_s, if_pos, if_neg, if_true, if_false, Int.add_zero, true_or, or_true]
theorem X9_isPoint_1 {M : SZ} {n : Int} (h1 : 0 ≤ n) (h2 : n < zi M 0) (h3 : zi M 0 ≤ 16) : f_X9_isPoint M n = some (M, 1) := by
  unfold f_X9_isPoint; simp (disch := omega) only [chk_tr, chk_rng, chk_rnl, chk_ins, chk_ne, chk_01, olet_e, ob1_s, ob2_s, if_pos, if_neg, if_true, if_false, Int.add_zero, true_or, or_true, X9_within_1]
theorem X9_isPoint_0 {M : SZ} {n : Int} (r : rng n) (h0 : 0 ≤ zi M 0) (h3 : zi M 0 ≤ 16) (h : ¬ (0 ≤ n ∧ n < zi M 0)) : f_X9_isPoint M n = some (M, 0) := by
  obtain ⟨a, b⟩ := r
  unfold f_X9_isPoint
  by_cases q : n < 0
  · simp (disch := omega) only [chk_tr, chk_rng, chk_rnl, chk_ins, chk_ne, chk_01, olet_e, ob1_s, ob2_s, if_pos, if_neg, if_true, if_false, Int.add_zero, true_or, or_true, X9_within_l]
  · simp (disch := omega) only [chk_tr, chk_rng, chk_rnl, chk_ins, chk_ne, chk_01, olet_e, ob1_s, ob2_s, if_pos, if_neg, if_true, if_false, Int.add_zero, true_or, or_true, X9_within_r]
/-- three points on one line -/
def linP (M : SZ) (p q r : Nat) : Prop := (za M 1 q - za M 1 p) * (za M 2 r - za M 2 p) = (za M 2 q - za M 2 p) * (za M 1 r - za M 1 p) ∧ (za M 2 q - za M 2 p) * (za M 0 r - za M 0 p) = (za M 0 q - za M 0 p) * (za M 2 r - za M 2 p) ∧ (za M 0 q - za M 0 p) * (za M 1 r - za M 1 p) = (za M 1 q - za M 1 p) * (za M 0 r - za M 0 p)
theorem line_eq {X M : SZ} (hm : Msh X M) (hg : Gd M) {p q r : Int} (h1 : 0 ≤ p ∧ p < 16) (h2 : 0 ≤ q ∧ q < 16) (h3 : 0 ≤ r ∧ r < 16) : ∃ v : Int, f_X4_onLine X p q r = some (X, v) ∧ f_X9_isStraight M p q r = some (M, v) ∧ ((v = 1 ∧ linP M p.toNat q.toNat r.toNat) ∨ (v = 0 ∧ ¬ linP M p.toNat q.toNat r.toNat)) := by
  obtain ⟨e0, e1, e2, e3, e4, e5, ex, ey, ez, ec, ew, ev, eb⟩ := id hm
  obtain ⟨g0, g1, g2, g3, gp, gc, gf, gw, gv⟩ := id hg
  have gp1 := gp p.toNat
  have gp2 := gp q.toNat
  have gp3 := gp r.toNat
  have m1 := mb (x := za M 1 q.toNat - za M 1 p.toNat) (y := za M 2 r.toNat - za M 2 p.toNat) (A := 18) (B := 18) (by omega) (by omega) (by omega) (by omega)
  have m2 := mb (x := za M 2 q.toNat - za M 2 p.toNat) (y := za M 1 r.toNat - za M 1 p.toNat) (A := 18) (B := 18) (by omega) (by omega) (by omega) (by omega)
  have m3 := mb (x := za M 2 q.toNat - za M 2 p.toNat) (y := za M 0 r.toNat - za M 0 p.toNat) (A := 18) (B := 18) (by omega) (by omega) (by omega) (by omega)
  have m4 := mb (x := za M 0 q.toNat - za M 0 p.toNat) (y := za M 2 r.toNat - za M 2 p.toNat) (A := 18) (B := 18) (by omega) (by omega) (by omega) (by omega)
  have m5 := mb (x := za M 0 q.toNat - za M 0 p.toNat) (y := za M 1 r.toNat - za M 1 p.toNat) (A := 18) (B := 18) (by omega) (by omega) (by omega) (by omega)
  have m6 := mb (x := za M 1 q.toNat - za M 1 p.toNat) (y := za M 0 r.toNat - za M 0 p.toNat) (A := 18) (B := 18) (by omega) (by omega) (by omega) (by omega)
  unfold f_X4_onLine f_X9_isStraight f_X4_area_y_z f_X4_area_z_x f_X4_area_x_y linP
  simp (disch := omega) only [chk_ins, ob2_s, olet_e, ex, ey, ez]
  generalize (za M 1 q.toNat - za M 1 p.toNat) * (za M 2 r.toNat - za M 2 p.toNat) = A1 at *
  generalize (za M 2 q.toNat - za M 2 p.toNat) * (za M 1 r.toNat - za M 1 p.toNat) = A2 at *
  generalize (za M 2 q.toNat - za M 2 p.toNat) * (za M 0 r.toNat - za M 0 p.toNat) = A3 at *
  generalize (za M 0 q.toNat - za M 0 p.toNat) * (za M 2 r.toNat - za M 2 p.toNat) = A4 at *
  generalize (za M 0 q.toNat - za M 0 p.toNat) * (za M 1 r.toNat - za M 1 p.toNat) = A5 at *
  generalize (za M 1 q.toNat - za M 1 p.toNat) * (za M 0 r.toNat - za M 0 p.toNat) = A6 at *
  by_cases q1 : A1 = A2
  · by_cases q2 : A3 = A4
    · by_cases q3 : A5 = A6
      · refine ⟨1, ?_, ?_, Or.inl ⟨rfl, q1, q2, q3⟩⟩
        · simp (disch := omega) only [chk_tr, chk_rng, chk_rnl, chk_ins, chk_ne, chk_01, olet_e, ob1_s, ob2_s, if_pos, if_neg, if_true, if_false, Int.add_zero, true_or, or_true]
        · simp (disch := omega) only [chk_tr, chk_rng, chk_rnl, chk_ins, chk_ne, chk_01, olet_e, ob1_s, ob2_s, if_pos, if_neg, if_true, if_false, Int.add_zero, true_or, or_true]
      · refine ⟨0, ?_, ?_, Or.inr ⟨rfl, fun h => q3 h.2.2⟩⟩
        · simp (disch := omega) only [chk_tr, chk_rng, chk_rnl, chk_ins, chk_ne, chk_01, olet_e, ob1_s, ob2_s, if_pos, if_neg, if_true, if_false, Int.add_zero, true_or, or_true]
        · simp (disch := omega) only [chk_tr, chk_rng, chk_rnl, chk_ins, chk_ne, chk_01, olet_e, ob1_s, ob2_s, if_pos, if_neg, if_true, if_false, Int.add_zero, true_or, or_true]
    · refine ⟨0, ?_, ?_, Or.inr ⟨rfl, fun h => q2 h.2.1⟩⟩
      · simp (disch := omega) only [chk_tr, chk_rng, chk_rnl, chk_ins, chk_ne, chk_01, olet_e, ob1_s, ob2_s, if_pos, if_neg, if_true, if_false, Int.add_zero, true_or, or_true]
      · simp (disch := omega) only [chk_tr, chk_rng, chk_rnl, chk_ins, chk_ne, chk_01, olet_e, ob1_s, ob2_s, if_pos, if_neg, if_true, if_false, Int.add_zero, true_or, or_true]
  · refine ⟨0, ?_, ?_, Or.inr ⟨rfl, fun h => q1 h.1⟩⟩
    · simp (disch := omega) only [chk_tr, chk_rng, chk_rnl, chk_ins, chk_ne, chk_01, olet_e, ob1_s, ob2_s, if_pos, if_neg, if_true, if_false, Int.add_zero, true_or, or_true]
    · simp (disch := omega) only [chk_tr, chk_rng, chk_rnl, chk_ins, chk_ne, chk_01, olet_e, ob1_s, ob2_s, if_pos, if_neg, if_true, if_false, Int.add_zero, true_or, or_true]
