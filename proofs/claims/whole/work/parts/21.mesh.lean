/-! THE MESH of both sides -/
def Msh (X M : SZ) : Prop := zi X 2 = zi M 0 ∧ zi X 3 = zi M 1 ∧ zi X 4 = zi M 2 ∧ zi X 5 = zi M 3 ∧ zi X 6 = zi M 4 ∧ zi X 7 = zi M 5 ∧ (∀ j, za X 1 j = za M 0 j) ∧ (∀ j, za X 2 j = za M 1 j) ∧ (∀ j, za X 3 j = za M 2 j) ∧ (∀ j, za X 4 j = za M 3 j) ∧ (∀ w, za X 5 (2 * w) = za M 4 w) ∧ (∀ w, za X 5 (2 * w + 1) = za M 5 w) ∧ (∀ j, za M 6 j = BLKz j)
/-- the numbers of the mesh lie where they must -/
def Gd (M : SZ) : Prop := (0 ≤ zi M 0 ∧ zi M 0 ≤ 16) ∧ (0 ≤ zi M 1 ∧ zi M 1 ≤ 24) ∧ (0 ≤ zi M 2 ∧ zi M 2 ≤ 8) ∧ ((-3 ≤ zi M 3 ∧ zi M 3 ≤ 3) ∧ (-3 ≤ zi M 4 ∧ zi M 4 ≤ 3) ∧ (-3 ≤ zi M 5 ∧ zi M 5 ≤ 3) ∧ (zi M 3 ≠ 0 ∨ zi M 4 ≠ 0 ∨ zi M 5 ≠ 0)) ∧ (∀ j, (-9 ≤ za M 0 j ∧ za M 0 j ≤ 9) ∧ (-9 ≤ za M 1 j ∧ za M 1 j ≤ 9) ∧ (-9 ≤ za M 2 j ∧ za M 2 j ≤ 9)) ∧ (∀ j, 0 ≤ za M 3 j ∧ za M 3 j < 16) ∧ (∀ f : Nat, (f : Int) < zi M 1 → (za M 3 (3 * f) < zi M 0 ∧ za M 3 (3 * f + 1) < zi M 0 ∧ za M 3 (3 * f + 2) < zi M 0) ∧ za M 3 (3 * f) ≠ za M 3 (3 * f + 1) ∧ za M 3 (3 * f) ≠ za M 3 (3 * f + 2) ∧ za M 3 (3 * f + 1) ≠ za M 3 (3 * f + 2)) ∧ (∀ j, (0 ≤ za M 4 j ∧ za M 4 j < 16) ∧ (0 ≤ za M 5 j ∧ za M 5 j < 16)) ∧ (∀ w : Nat, (w : Int) < zi M 2 → za M 4 w < zi M 0 ∧ za M 5 w < zi M 0 ∧ za M 4 w ≠ za M 5 w)
/-- what was found is forgotten -/
def Rst (X M : SZ) : Prop := zi X 0 = 0 ∧ zi X 1 = -9 ∧ zi M 6 = 0
/-- a call of both sides that changes the mesh, or nothing of it -/
def Mstep (X M : SZ) (o1 o2 : Option (SZ × Int)) : Prop := ∃ (X1 M1 : SZ) (r : Int), o1 = some (X1, r) ∧ o2 = some (M1, r) ∧ ((X1 = X ∧ M1 = M) ∨ (Msh X1 M1 ∧ Gd M1 ∧ Rst X1 M1))
theorem fu_eq : FU = 4999 + 1 := rfl
theorem X8_forget_e (X : SZ) : f_X8_forget X = some (ui (ui X 0 0) 1 (-9)) := rfl
theorem ms_cut {X M : SZ} (hm : Msh X M) (hg : Gd M) : Mstep X M (f_X8_cut X) (f_X9_cut M) := by
  obtain ⟨e0, e1, e2, e3, e4, e5, ex, ey, ez, ec, ew, ev, eb⟩ := id hm
  obtain ⟨g0, g1, g2, g3, gp, gc, gf, gw, gv⟩ := id hg
  unfold f_X8_cut f_X9_cut
  by_cases h : zi M 1 = 0
  · refine ⟨X, M, -3, ?_, ?_, Or.inl ⟨rfl, rfl⟩⟩
    · simp (disch := omega) only [chk_tr, chk_rng, chk_rnl, chk_ins, chk_ne, chk_01, olet_e, ob1_s, ob2_s, if_pos, if_neg, if_true, if_false, Int.add_zero, true_or, or_true, zi_ui, zi_ui', zl_ui, za_ui, zb_ui, zi_ul, zl_ul, zl_ul', za_ul, zb_ul, zi_ua, zl_ua, zb_ua, za_ua, za_ua', zi_ub, zl_ub, za_ub, zb_ub, zb_ub', e1]
    · simp (disch := omega) only [chk_tr, chk_rng, chk_rnl, chk_ins, chk_ne, chk_01, olet_e, ob1_s, ob2_s, if_pos, if_neg, if_true, if_false, Int.add_zero, true_or, or_true, zi_ui, zi_ui', zl_ui, za_ui, zb_ui, zi_ul, zl_ul, zl_ul', za_ul, zb_ul, zi_ua, zl_ua, zb_ua, za_ua, za_ua', zi_ub, zl_ub, za_ub, zb_ub, zb_ub']
  · refine ⟨ui (ui (ui X 0 0) 1 (-9)) 3 (zi M 1 - 1), ui (ui M 1 (zi M 1 - 1)) 6 0, zi M 1 - 1, ?_, ?_, Or.inr ⟨?_, ?_, ?_⟩⟩
    · simp (disch := omega) only [chk_tr, chk_rng, chk_rnl, chk_ins, chk_ne, chk_01, olet_e, ob1_s, ob2_s, if_pos, if_neg, if_true, if_false, Int.add_zero, true_or, or_true, zi_ui, zi_ui', zl_ui, za_ui, zb_ui, zi_ul, zl_ul, zl_ul', za_ul, zb_ul, zi_ua, zl_ua, zb_ua, za_ua, za_ua', zi_ub, zl_ub, za_ub, zb_ub, zb_ub', e1, X8_forget_e]
    · simp (disch := omega) only [chk_tr, chk_rng, chk_rnl, chk_ins, chk_ne, chk_01, olet_e, ob1_s, ob2_s, if_pos, if_neg, if_true, if_false, Int.add_zero, true_or, or_true, zi_ui, zi_ui', zl_ui, za_ui, zb_ui, zi_ul, zl_ul, zl_ul', za_ul, zb_ul, zi_ua, zl_ua, zb_ua, za_ua, za_ua', zi_ub, zl_ub, za_ub, zb_ub, zb_ub']
    · unfold Msh; simp (disch := omega) only [zi_ui, zi_ui', zl_ui, za_ui, zb_ui, zi_ul, zl_ul, zl_ul', za_ul, zb_ul, zi_ua, zl_ua, zb_ua, za_ua, za_ua', zi_ub, zl_ub, za_ub, zb_ub, zb_ub', e0, e1, e2, e3, e4, e5, ex, ey, ez, ec, ew, ev, eb]
      simp
    · refine ⟨?_, ?_, ?_, ?_, ?_, ?_, ?_, ?_, ?_⟩
      · simp (disch := omega) only [zi_ui, zi_ui', zl_ui, za_ui, zb_ui, zi_ul, zl_ul, zl_ul', za_ul, zb_ul, zi_ua, zl_ua, zb_ua, za_ua, za_ua', zi_ub, zl_ub, za_ub, zb_ub, zb_ub']; exact g0
      · simp (disch := omega) only [zi_ui, zi_ui', zl_ui, za_ui, zb_ui, zi_ul, zl_ul, zl_ul', za_ul, zb_ul, zi_ua, zl_ua, zb_ua, za_ua, za_ua', zi_ub, zl_ub, za_ub, zb_ub, zb_ub']; omega
      · simp (disch := omega) only [zi_ui, zi_ui', zl_ui, za_ui, zb_ui, zi_ul, zl_ul, zl_ul', za_ul, zb_ul, zi_ua, zl_ua, zb_ua, za_ua, za_ua', zi_ub, zl_ub, za_ub, zb_ub, zb_ub']; exact g2
      · simp (disch := omega) only [zi_ui, zi_ui', zl_ui, za_ui, zb_ui, zi_ul, zl_ul, zl_ul', za_ul, zb_ul, zi_ua, zl_ua, zb_ua, za_ua, za_ua', zi_ub, zl_ub, za_ub, zb_ub, zb_ub']; exact g3
      · simp (disch := omega) only [zi_ui, zi_ui', zl_ui, za_ui, zb_ui, zi_ul, zl_ul, zl_ul', za_ul, zb_ul, zi_ua, zl_ua, zb_ua, za_ua, za_ua', zi_ub, zl_ub, za_ub, zb_ub, zb_ub']; exact gp
      · simp (disch := omega) only [zi_ui, zi_ui', zl_ui, za_ui, zb_ui, zi_ul, zl_ul, zl_ul', za_ul, zb_ul, zi_ua, zl_ua, zb_ua, za_ua, za_ua', zi_ub, zl_ub, za_ub, zb_ub, zb_ub']; exact gc
      · intro f hf
        rw [zi_ui' _ _ (by decide), zi_ui] at hf
        simp (disch := omega) only [zi_ui, zi_ui', zl_ui, za_ui, zb_ui, zi_ul, zl_ul, zl_ul', za_ul, zb_ul, zi_ua, zl_ua, zb_ua, za_ua, za_ua', zi_ub, zl_ub, za_ub, zb_ub, zb_ub']; exact gf f (by omega)
      · simp (disch := omega) only [zi_ui, zi_ui', zl_ui, za_ui, zb_ui, zi_ul, zl_ul, zl_ul', za_ul, zb_ul, zi_ua, zl_ua, zb_ua, za_ua, za_ua', zi_ub, zl_ub, za_ub, zb_ub, zb_ub']; exact gw
      · simp (disch := omega) only [zi_ui, zi_ui', zl_ui, za_ui, zb_ui, zi_ul, zl_ul, zl_ul', za_ul, zb_ul, zi_ua, zl_ua, zb_ua, za_ua, za_ua', zi_ub, zl_ub, za_ub, zb_ub, zb_ub']; exact gv
    · refine ⟨?_, ?_, ?_⟩ <;> simp (disch := omega) only [zi_ui, zi_ui', zl_ui, za_ui, zb_ui, zi_ul, zl_ul, zl_ul', za_ul, zb_ul, zi_ua, zl_ua, zb_ua, za_ua, za_ua', zi_ub, zl_ub, za_ub, zb_ub, zb_ub']
theorem ms_clear {X M : SZ} (hm : Msh X M) (hg : Gd M) : Mstep X M (f_X8_clear X) (f_X9_clear M) := by
  obtain ⟨e0, e1, e2, e3, e4, e5, ex, ey, ez, ec, ew, ev, eb⟩ := id hm
  obtain ⟨g0, g1, g2, g3, gp, gc, gf, gw, gv⟩ := id hg
  unfold f_X8_clear f_X9_clear
  refine ⟨ui (ui (ui (ui (ui X 0 0) 1 (-9)) 2 0) 3 0) 4 0, ui (ui (ui (ui M 0 0) 1 0) 2 0) 6 0, zi M 1, ?_, ?_, Or.inr ⟨?_, ?_, ?_⟩⟩
  · simp (disch := omega) only [chk_tr, chk_rng, chk_rnl, chk_ins, chk_ne, chk_01, olet_e, ob1_s, ob2_s, if_pos, if_neg, if_true, if_false, Int.add_zero, true_or, or_true, zi_ui, zi_ui', zl_ui, za_ui, zb_ui, zi_ul, zl_ul, zl_ul', za_ul, zb_ul, zi_ua, zl_ua, zb_ua, za_ua, za_ua', zi_ub, zl_ub, za_ub, zb_ub, zb_ub', e1, X8_forget_e]
  · simp (disch := omega) only [chk_tr, chk_rng, chk_rnl, chk_ins, chk_ne, chk_01, olet_e, ob1_s, ob2_s, if_pos, if_neg, if_true, if_false, Int.add_zero, true_or, or_true, zi_ui, zi_ui', zl_ui, za_ui, zb_ui, zi_ul, zl_ul, zl_ul', za_ul, zb_ul, zi_ua, zl_ua, zb_ua, za_ua, za_ua', zi_ub, zl_ub, za_ub, zb_ub, zb_ub']
  · unfold Msh; simp (disch := omega) only [zi_ui, zi_ui', zl_ui, za_ui, zb_ui, zi_ul, zl_ul, zl_ul', za_ul, zb_ul, zi_ua, zl_ua, zb_ua, za_ua, za_ua', zi_ub, zl_ub, za_ub, zb_ub, zb_ub', e0, e1, e2, e3, e4, e5, ex, ey, ez, ec, ew, ev, eb]
    simp
  · refine ⟨?_, ?_, ?_, ?_, ?_, ?_, ?_, ?_, ?_⟩
    · simp (disch := omega) only [zi_ui, zi_ui', zl_ui, za_ui, zb_ui, zi_ul, zl_ul, zl_ul', za_ul, zb_ul, zi_ua, zl_ua, zb_ua, za_ua, za_ua', zi_ub, zl_ub, za_ub, zb_ub, zb_ub']; omega
    · simp (disch := omega) only [zi_ui, zi_ui', zl_ui, za_ui, zb_ui, zi_ul, zl_ul, zl_ul', za_ul, zb_ul, zi_ua, zl_ua, zb_ua, za_ua, za_ua', zi_ub, zl_ub, za_ub, zb_ub, zb_ub']; omega
    · simp (disch := omega) only [zi_ui, zi_ui', zl_ui, za_ui, zb_ui, zi_ul, zl_ul, zl_ul', za_ul, zb_ul, zi_ua, zl_ua, zb_ua, za_ua, za_ua', zi_ub, zl_ub, za_ub, zb_ub, zb_ub']; omega
    · simp (disch := omega) only [zi_ui, zi_ui', zl_ui, za_ui, zb_ui, zi_ul, zl_ul, zl_ul', za_ul, zb_ul, zi_ua, zl_ua, zb_ua, za_ua, za_ua', zi_ub, zl_ub, za_ub, zb_ub, zb_ub']; exact g3
    · simp (disch := omega) only [zi_ui, zi_ui', zl_ui, za_ui, zb_ui, zi_ul, zl_ul, zl_ul', za_ul, zb_ul, zi_ua, zl_ua, zb_ua, za_ua, za_ua', zi_ub, zl_ub, za_ub, zb_ub, zb_ub']; exact gp
    · simp (disch := omega) only [zi_ui, zi_ui', zl_ui, za_ui, zb_ui, zi_ul, zl_ul, zl_ul', za_ul, zb_ul, zi_ua, zl_ua, zb_ua, za_ua, za_ua', zi_ub, zl_ub, za_ub, zb_ub, zb_ub']; exact gc
    · intro f hf
      simp (disch := omega) only [zi_ui, zi_ui'] at hf
      omega
    · simp (disch := omega) only [zi_ui, zi_ui', zl_ui, za_ui, zb_ui, zi_ul, zl_ul, zl_ul', za_ul, zb_ul, zi_ua, zl_ua, zb_ua, za_ua, za_ua', zi_ub, zl_ub, za_ub, zb_ub, zb_ub']; exact gw
    · intro f hf
      simp (disch := omega) only [zi_ui, zi_ui'] at hf
      omega
  · refine ⟨?_, ?_, ?_⟩ <;> simp (disch := omega) only [zi_ui, zi_ui', zl_ui, za_ui, zb_ui, zi_ul, zl_ul, zl_ul', za_ul, zb_ul, zi_ua, zl_ua, zb_ua, za_ua, za_ua', zi_ub, zl_ub, za_ub, zb_ub, zb_ub']
def vwd (a b c : Int) : Prop := (-3 ≤ a ∧ a ≤ 3) ∧ (-3 ≤ b ∧ b ≤ 3) ∧ (-3 ≤ c ∧ c ≤ 3)
theorem X8_view_0 (S : SZ) {x y z : Int} (r1 : rng x) (r2 : rng y) (r3 : rng z) (h : ¬ vwd x y z) : f_X8_view S x y z = some (S, -2) ∧ f_X9_view S x y z = some (S, -2) := by
  obtain ⟨a1, b1⟩ := r1
  obtain ⟨a2, b2⟩ := r2
  obtain ⟨a3, b3⟩ := r3
  unfold vwd at h
  unfold f_X8_view f_X9_view f_X9_view_p35
  by_cases h1 : x < -3
  · constructor
    · simp (disch := omega) only [chk_tr, chk_rng, chk_rnl, chk_ins, chk_ne, chk_01, olet_e, ob1_s, ob2_s, if_pos, if_neg, if_true, if_false, Int.add_zero, true_or, or_true, X8_within_l]
    · simp (disch := omega) only [chk_tr, chk_rng, chk_rnl, chk_ins, chk_ne, chk_01, olet_e, ob1_s, ob2_s, if_pos, if_neg, if_true, if_false, Int.add_zero, true_or, or_true, X9_within_l]
  by_cases h2 : 3 < x
  · constructor
    · simp (disch := omega) only [chk_tr, chk_rng, chk_rnl, chk_ins, chk_ne, chk_01, olet_e, ob1_s, ob2_s, if_pos, if_neg, if_true, if_false, Int.add_zero, true_or, or_true, X8_within_r]
    · simp (disch := omega) only [chk_tr, chk_rng, chk_rnl, chk_ins, chk_ne, chk_01, olet_e, ob1_s, ob2_s, if_pos, if_neg, if_true, if_false, Int.add_zero, true_or, or_true, X9_within_r]
  by_cases h3 : y < -3
  · constructor
    · simp (disch := omega) only [chk_tr, chk_rng, chk_rnl, chk_ins, chk_ne, chk_01, olet_e, ob1_s, ob2_s, if_pos, if_neg, if_true, if_false, Int.add_zero, true_or, or_true, X8_within_1, X8_within_l]
    · simp (disch := omega) only [chk_tr, chk_rng, chk_rnl, chk_ins, chk_ne, chk_01, olet_e, ob1_s, ob2_s, if_pos, if_neg, if_true, if_false, Int.add_zero, true_or, or_true, X9_within_1, X9_within_l]
  by_cases h4 : 3 < y
  · constructor
    · simp (disch := omega) only [chk_tr, chk_rng, chk_rnl, chk_ins, chk_ne, chk_01, olet_e, ob1_s, ob2_s, if_pos, if_neg, if_true, if_false, Int.add_zero, true_or, or_true, X8_within_1, X8_within_r]
    · simp (disch := omega) only [chk_tr, chk_rng, chk_rnl, chk_ins, chk_ne, chk_01, olet_e, ob1_s, ob2_s, if_pos, if_neg, if_true, if_false, Int.add_zero, true_or, or_true, X9_within_1, X9_within_r]
  by_cases h5 : z < -3
  · constructor
    · simp (disch := omega) only [chk_tr, chk_rng, chk_rnl, chk_ins, chk_ne, chk_01, olet_e, ob1_s, ob2_s, if_pos, if_neg, if_true, if_false, Int.add_zero, true_or, or_true, X8_within_1, X8_within_l]
    · simp (disch := omega) only [chk_tr, chk_rng, chk_rnl, chk_ins, chk_ne, chk_01, olet_e, ob1_s, ob2_s, if_pos, if_neg, if_true, if_false, Int.add_zero, true_or, or_true, X9_within_1, X9_within_l]
  have h6 : 3 < z := by omega
  constructor
  · simp (disch := omega) only [chk_tr, chk_rng, chk_rnl, chk_ins, chk_ne, chk_01, olet_e, ob1_s, ob2_s, if_pos, if_neg, if_true, if_false, Int.add_zero, true_or, or_true, X8_within_1, X8_within_r]
  · simp (disch := omega) only [chk_tr, chk_rng, chk_rnl, chk_ins, chk_ne, chk_01, olet_e, ob1_s, ob2_s, if_pos, if_neg, if_true, if_false, Int.add_zero, true_or, or_true, X9_within_1, X9_within_r]
theorem ms_view {X M : SZ} (hm : Msh X M) (hg : Gd M) {x y z : Int} (r1 : rng x) (r2 : rng y) (r3 : rng z) : Mstep X M (f_X8_view X x y z) (f_X9_view M x y z) := by
  obtain ⟨e0, e1, e2, e3, e4, e5, ex, ey, ez, ec, ew, ev, eb⟩ := id hm
  obtain ⟨g0, g1, g2, g3, gp, gc, gf, gw, gv⟩ := id hg
  by_cases h : vwd x y z
  · obtain ⟨⟨h1, h2⟩, ⟨h3, h4⟩, h5, h6⟩ := id h
    by_cases h0 : x = 0 ∧ y = 0 ∧ z = 0
    · obtain ⟨rfl, rfl, rfl⟩ := h0
      refine ⟨X, M, -2, ?_, ?_, Or.inl ⟨rfl, rfl⟩⟩
      · unfold f_X8_view; simp (disch := omega) only [chk_tr, chk_rng, chk_rnl, chk_ins, chk_ne, chk_01, olet_e, ob1_s, ob2_s, if_pos, if_neg, if_true, if_false, Int.add_zero, true_or, or_true, X8_within_1]
      · unfold f_X9_view f_X9_view_p35; simp (disch := omega) only [chk_tr, chk_rng, chk_rnl, chk_ins, chk_ne, chk_01, olet_e, ob1_s, ob2_s, if_pos, if_neg, if_true, if_false, Int.add_zero, true_or, or_true, X9_within_1]
    · refine ⟨ui (ui (ui (ui (ui X 0 0) 1 (-9)) 5 x) 6 y) 7 z, ui (ui (ui (ui M 3 x) 4 y) 5 z) 6 0, 1, ?_, ?_, Or.inr ⟨?_, ?_, ?_⟩⟩
      · unfold f_X8_view f_X6_look
        by_cases hx : x = 0
        · by_cases hy : y = 0
          · simp (disch := omega) only [chk_tr, chk_rng, chk_rnl, chk_ins, chk_ne, chk_01, olet_e, ob1_s, ob2_s, if_pos, if_neg, if_true, if_false, Int.add_zero, true_or, or_true, X8_within_1, X8_forget_e]
          · simp (disch := omega) only [chk_tr, chk_rng, chk_rnl, chk_ins, chk_ne, chk_01, olet_e, ob1_s, ob2_s, if_pos, if_neg, if_true, if_false, Int.add_zero, true_or, or_true, X8_within_1, X8_forget_e]
        · simp (disch := omega) only [chk_tr, chk_rng, chk_rnl, chk_ins, chk_ne, chk_01, olet_e, ob1_s, ob2_s, if_pos, if_neg, if_true, if_false, Int.add_zero, true_or, or_true, X8_within_1, X8_forget_e]
      · unfold f_X9_view f_X9_view_p35 f_X9_view_p57
        by_cases hx : x = 0
        · by_cases hy : y = 0
          · simp (disch := omega) only [chk_tr, chk_rng, chk_rnl, chk_ins, chk_ne, chk_01, olet_e, ob1_s, ob2_s, if_pos, if_neg, if_true, if_false, Int.add_zero, true_or, or_true, X9_within_1]
          · simp (disch := omega) only [chk_tr, chk_rng, chk_rnl, chk_ins, chk_ne, chk_01, olet_e, ob1_s, ob2_s, if_pos, if_neg, if_true, if_false, Int.add_zero, true_or, or_true, X9_within_1]
        · simp (disch := omega) only [chk_tr, chk_rng, chk_rnl, chk_ins, chk_ne, chk_01, olet_e, ob1_s, ob2_s, if_pos, if_neg, if_true, if_false, Int.add_zero, true_or, or_true, X9_within_1]
      · unfold Msh; simp (disch := omega) only [zi_ui, zi_ui', zl_ui, za_ui, zb_ui, zi_ul, zl_ul, zl_ul', za_ul, zb_ul, zi_ua, zl_ua, zb_ua, za_ua, za_ua', zi_ub, zl_ub, za_ub, zb_ub, zb_ub', e0, e1, e2, e3, e4, e5, ex, ey, ez, ec, ew, ev, eb]
        simp
      · refine ⟨?_, ?_, ?_, ?_, ?_, ?_, ?_, ?_, ?_⟩
        · simp (disch := omega) only [zi_ui, zi_ui', zl_ui, za_ui, zb_ui, zi_ul, zl_ul, zl_ul', za_ul, zb_ul, zi_ua, zl_ua, zb_ua, za_ua, za_ua', zi_ub, zl_ub, za_ub, zb_ub, zb_ub']; exact g0
        · simp (disch := omega) only [zi_ui, zi_ui', zl_ui, za_ui, zb_ui, zi_ul, zl_ul, zl_ul', za_ul, zb_ul, zi_ua, zl_ua, zb_ua, za_ua, za_ua', zi_ub, zl_ub, za_ub, zb_ub, zb_ub']; exact g1
        · simp (disch := omega) only [zi_ui, zi_ui', zl_ui, za_ui, zb_ui, zi_ul, zl_ul, zl_ul', za_ul, zb_ul, zi_ua, zl_ua, zb_ua, za_ua, za_ua', zi_ub, zl_ub, za_ub, zb_ub, zb_ub']; exact g2
        · simp (disch := omega) only [zi_ui, zi_ui', zl_ui, za_ui, zb_ui, zi_ul, zl_ul, zl_ul', za_ul, zb_ul, zi_ua, zl_ua, zb_ua, za_ua, za_ua', zi_ub, zl_ub, za_ub, zb_ub, zb_ub']; omega
        · simp (disch := omega) only [zi_ui, zi_ui', zl_ui, za_ui, zb_ui, zi_ul, zl_ul, zl_ul', za_ul, zb_ul, zi_ua, zl_ua, zb_ua, za_ua, za_ua', zi_ub, zl_ub, za_ub, zb_ub, zb_ub']; exact gp
        · simp (disch := omega) only [zi_ui, zi_ui', zl_ui, za_ui, zb_ui, zi_ul, zl_ul, zl_ul', za_ul, zb_ul, zi_ua, zl_ua, zb_ua, za_ua, za_ua', zi_ub, zl_ub, za_ub, zb_ub, zb_ub']; exact gc
        · simp (disch := omega) only [zi_ui, zi_ui', zl_ui, za_ui, zb_ui, zi_ul, zl_ul, zl_ul', za_ul, zb_ul, zi_ua, zl_ua, zb_ua, za_ua, za_ua', zi_ub, zl_ub, za_ub, zb_ub, zb_ub']; exact gf
        · simp (disch := omega) only [zi_ui, zi_ui', zl_ui, za_ui, zb_ui, zi_ul, zl_ul, zl_ul', za_ul, zb_ul, zi_ua, zl_ua, zb_ua, za_ua, za_ua', zi_ub, zl_ub, za_ub, zb_ub, zb_ub']; exact gw
        · simp (disch := omega) only [zi_ui, zi_ui', zl_ui, za_ui, zb_ui, zi_ul, zl_ul, zl_ul', za_ul, zb_ul, zi_ua, zl_ua, zb_ua, za_ua, za_ua', zi_ub, zl_ub, za_ub, zb_ub, zb_ub']; exact gv
      · refine ⟨?_, ?_, ?_⟩ <;> simp (disch := omega) only [zi_ui, zi_ui', zl_ui, za_ui, zb_ui, zi_ul, zl_ul, zl_ul', za_ul, zb_ul, zi_ua, zl_ua, zb_ua, za_ua, za_ua', zi_ub, zl_ub, za_ub, zb_ub, zb_ub']
  · exact ⟨X, M, -2, (X8_view_0 X r1 r2 r3 h).1, (X8_view_0 M r1 r2 r3 h).2, Or.inl ⟨rfl, rfl⟩⟩
/-- where a point is looked for -/
theorem pointAt_rel {X M : SZ} (hm : Msh X M) (hg : Gd M) {x y z : Int} (r1 : rng x) (r2 : rng y) (r3 : rng z) : ∀ (fu : Nat) (k : Int), 0 ≤ k → k ≤ zi M 0 → zi M 0 < k + fu → ∃ r : Int, f_X4_pointAt_p3 fu X x y z k = some (X, r) ∧ f_X9_pointAt_p3 fu M x y z k = some (M, r) ∧ (r = -9 ∨ (0 ≤ r ∧ r < zi M 0 ∧ za M 0 r.toNat = x ∧ za M 1 r.toNat = y ∧ za M 2 r.toNat = z)) := by
  obtain ⟨e0, e1, e2, e3, e4, e5, ex, ey, ez, ec, ew, ev, eb⟩ := id hm
  obtain ⟨g0, g1, g2, g3, gp, gc, gf, gw, gv⟩ := id hg
  obtain ⟨a1, b1⟩ := r1
  obtain ⟨a2, b2⟩ := r2
  obtain ⟨a3, b3⟩ := r3
  intro fu
  induction fu with
  | zero => intro k h1 h2 h3; exact absurd h3 (by omega)
  | succ fu ih =>
    intro k h1 h2 h3
    rw [f_X4_pointAt_p3, f_X9_pointAt_p3]
    have p := gp k.toNat
    by_cases hk : zi M 0 ≤ k
    · refine ⟨-9, ?_, ?_, Or.inl rfl⟩
      · simp (disch := omega) only [chk_tr, chk_rng, chk_rnl, chk_ins, chk_ne, chk_01, olet_e, ob1_s, ob2_s, if_pos, if_neg, if_true, if_false, Int.add_zero, true_or, or_true, e0]
      · simp (disch := omega) only [chk_tr, chk_rng, chk_rnl, chk_ins, chk_ne, chk_01, olet_e, ob1_s, ob2_s, if_pos, if_neg, if_true, if_false, Int.add_zero, true_or, or_true]
    · obtain ⟨r, i1, i2, i3⟩ := ih (k + 1) (by omega) (by omega) (by omega)
      by_cases q1 : za M 0 k.toNat = x
      · by_cases q2 : za M 1 k.toNat = y
        · by_cases q3 : za M 2 k.toNat = z
          · refine ⟨k, ?_, ?_, Or.inr ⟨h1, by omega, q1, q2, q3⟩⟩
            · simp (disch := omega) only [chk_tr, chk_rng, chk_rnl, chk_ins, chk_ne, chk_01, olet_e, ob1_s, ob2_s, if_pos, if_neg, if_true, if_false, Int.add_zero, true_or, or_true, e0, ex, ey, ez]
            · simp (disch := omega) only [chk_tr, chk_rng, chk_rnl, chk_ins, chk_ne, chk_01, olet_e, ob1_s, ob2_s, if_pos, if_neg, if_true, if_false, Int.add_zero, true_or, or_true]
          · refine ⟨r, ?_, ?_, i3⟩
            · rw [← i1]; simp (disch := omega) only [chk_tr, chk_rng, chk_rnl, chk_ins, chk_ne, chk_01, olet_e, ob1_s, ob2_s, if_pos, if_neg, if_true, if_false, Int.add_zero, true_or, or_true, e0, ex, ey, ez]
            · rw [← i2]; simp (disch := omega) only [chk_tr, chk_rng, chk_rnl, chk_ins, chk_ne, chk_01, olet_e, ob1_s, ob2_s, if_pos, if_neg, if_true, if_false, Int.add_zero, true_or, or_true]
        · refine ⟨r, ?_, ?_, i3⟩
          · rw [← i1]; simp (disch := omega) only [chk_tr, chk_rng, chk_rnl, chk_ins, chk_ne, chk_01, olet_e, ob1_s, ob2_s, if_pos, if_neg, if_true, if_false, Int.add_zero, true_or, or_true, e0, ex, ey, ez]
          · rw [← i2]; simp (disch := omega) only [chk_tr, chk_rng, chk_rnl, chk_ins, chk_ne, chk_01, olet_e, ob1_s, ob2_s, if_pos, if_neg, if_true, if_false, Int.add_zero, true_or, or_true]
      · refine ⟨r, ?_, ?_, i3⟩
        · rw [← i1]; simp (disch := omega) only [chk_tr, chk_rng, chk_rnl, chk_ins, chk_ne, chk_01, olet_e, ob1_s, ob2_s, if_pos, if_neg, if_true, if_false, Int.add_zero, true_or, or_true, e0, ex, ey, ez]
        · rw [← i2]; simp (disch := omega) only [chk_tr, chk_rng, chk_rnl, chk_ins, chk_ne, chk_01, olet_e, ob1_s, ob2_s, if_pos, if_neg, if_true, if_false, Int.add_zero, true_or, or_true]
theorem pointAt_eq {X M : SZ} (hm : Msh X M) (hg : Gd M) {x y z : Int} (r1 : rng x) (r2 : rng y) (r3 : rng z) : ∃ r : Int, f_X4_pointAt X x y z = some (X, r) ∧ f_X9_pointAt M x y z = some (M, r) ∧ (r = -9 ∨ (0 ≤ r ∧ r < zi M 0 ∧ za M 0 r.toNat = x ∧ za M 1 r.toNat = y ∧ za M 2 r.toNat = z)) :=
  pointAt_rel hm hg r1 r2 r3 FU 0 (by omega) hg.1.1 (by have := hg.1.2; rw [fu_eq]; omega)
