/-! the relation of the two sides, and all the calls -/
def RelXM (X M : SZ) : Prop := ∃ c : SZ, Gd c ∧ GX c X ∧ GM c M
theorem rel_rst {X M : SZ} (hm : Msh X M) (hg : Gd M) (hr : Rst X M) : RelXM X M :=
  ⟨M, hg, ⟨hm, ⟨by rw [hr.1]; omega, by rw [hr.1]; omega⟩, Or.inl hr.2.1, fun h => absurd h (by rw [hr.1]; omega), fun h => absurd h (by rw [hr.1]; omega), fun h => absurd h (by rw [hr.1]; omega)⟩, MEq.rf M, Or.inl hr.2.2⟩
theorem rel_mesh {X M : SZ} (h : RelXM X M) : Msh X M ∧ Gd M := by
  obtain ⟨c, hg, hX, hM⟩ := h
  exact ⟨hX.1.eq hM.1, hg.eq hM.1⟩
theorem rel_step {X M : SZ} (h : RelXM X M) {o1 o2 : Option (SZ × Int)} (hs : Mstep X M o1 o2) : ∃ (X1 M1 : SZ) (r : Int), o1 = some (X1, r) ∧ o2 = some (M1, r) ∧ RelXM X1 M1 := by
  obtain ⟨X1, M1, r, h1, h2, h3⟩ := hs
  refine ⟨X1, M1, r, h1, h2, ?_⟩
  rcases h3 with ⟨rfl, rfl⟩ | ⟨a, b, d⟩
  · exact h
  · exact rel_rst a b d
theorem FoundM.b7 {c M M1 : SZ} (h : FoundM c M) (hf : Fr [] [7] [] [] M M1) : FoundM c M1 := by
  obtain ⟨h1, ⟨s1, s2, s3, s4, s5⟩, h3⟩ := h
  refine ⟨h1.fr hf (by simp) (by intro k _ _; simp; omega) (by simp), ⟨by rw [hf.1 9 (by simp)]; exact s1, by rw [hf.1 8 (by simp)]; exact s2, fun i hi => ?_, fun i hi => ?_, fun e k he hk => ?_⟩, ?_⟩
  · rw [hf.2.1 15 _ (by simp), hf.2.1 16 _ (by simp), hf.2.1 17 _ (by simp)]; exact s3 i hi
  · rw [hf.2.1 14 _ (by simp)]; exact s4 i hi
  · rw [hf.2.1 18 _ (by simp)]; exact s5 e k he hk
  · rw [hf.2.1 14 _ (by simp)]; exact h3
theorem rel_step2 {X M : SZ} (h : RelXM X M) {o1 o2 : Option (SZ × Int)} (hs : Mstep2 X M o1 o2) : ∃ (X1 M1 : SZ) (r : Int), o1 = some (X1, r) ∧ o2 = some (M1, r) ∧ RelXM X1 M1 := by
  obtain ⟨X1, M1, r, h1, h2, h3⟩ := hs
  refine ⟨X1, M1, r, h1, h2, ?_⟩
  rcases h3 with ⟨a, b⟩ | ⟨a, b, d⟩
  · obtain ⟨c, hg, hX, hM⟩ := h
    have F1 : Fr [18, 19, 20, 21] [0] [] [] X X1 := ⟨fun k _ => a.1 k, fun k j hk => a.2.2.1 k j (fun e => hk (by rw [e]; simp)), fun k _ => a.2.1 k, fun k j _ => a.2.2.2 k j⟩
    have F2 : Fr [] [7] [] [] M M1 := ⟨fun k _ => b.1 k, fun k j hk => b.2.2.1 k j (fun e => hk (by rw [e]; simp)), fun k _ => b.2.1 k, fun k j _ => b.2.2.2 k j⟩
    refine ⟨c, hg, hX.fr F1, hM.1.fr F2 (by intro k _; simp) (by intro k hk; simp; omega), ?_⟩
    rcases hM.2 with q | ⟨q1, q2⟩
    · exact Or.inl (by rw [F2.1 6 (by simp)]; exact q)
    · exact Or.inr ⟨by rw [F2.1 6 (by simp)]; exact q1, q2.b7 F2⟩
  · exact rel_rst a b d
theorem rel_both {X M : SZ} {o1 o2 : Option (SZ × Int)} {c : SZ} (hg : Gd c) (h : Both c o1 o2) : ∃ (X1 M1 : SZ) (r : Int), o1 = some (X1, r) ∧ o2 = some (M1, r) ∧ RelXM X1 M1 := by
  obtain ⟨X1, M1, r, h1, h2, h3, h4⟩ := h
  exact ⟨X1, M1, r, h1, h2, c, hg, h3, h4⟩
theorem the_steps : Steps RelXM := by
  refine ⟨?_, ?_, ?_, ?_, ?_, ?_, ?_, ?_, ?_, ?_, ?_, ?_, ?_, ?_, ?_, ?_, ?_, ?_, ?_, ?_⟩
  · intro X M h u1 u2 u3 r1 r2 r3; exact rel_step h (ms_point (rel_mesh h).1 (rel_mesh h).2 r1 r2 r3)
  · intro X M h u1 u2 u3 r1 r2 r3; exact rel_step h (ms_face (rel_mesh h).1 (rel_mesh h).2 r1 r2 r3)
  · intro X M h u1 u2 r1 r2; exact rel_step h (ms_wire (rel_mesh h).1 (rel_mesh h).2 r1 r2)
  · intro X M h u1 u2 u3 u4 u5 u6 r1 r2 r3 r4 r5 r6; exact rel_step2 h (ms_block (rel_mesh h).1 (rel_mesh h).2 r1 r2 r3 r4 r5 r6)
  · intro X M h; exact rel_step h (ms_cut (rel_mesh h).1 (rel_mesh h).2)
  · intro X M h; exact rel_step h (ms_clear (rel_mesh h).1 (rel_mesh h).2)
  · intro X M h u1 u2 u3 r1 r2 r3; exact rel_step h (ms_view (rel_mesh h).1 (rel_mesh h).2 r1 r2 r3)
  · intro X M h u1 r1; exact rel_step h (ms_turn (rel_mesh h).1 (rel_mesh h).2 r1)
  · intro X M h u1 u2 u3 r1 r2 r3; exact rel_step h (ms_move (rel_mesh h).1 (rel_mesh h).2 r1 r2 r3)
  · intro X M h u1 u2 r1 r2; obtain ⟨c, hg, hX, hM⟩ := h; exact rel_both (X := X) (M := M) hg (ofPoint_e hg hX hM r1 r2)
  · intro X M h u1 u2 r1 r2; obtain ⟨c, hg, hX, hM⟩ := h; exact rel_both (X := X) (M := M) hg (ofFace_e hg hX hM r1 r2)
  · intro X M h u1 u2 r1 r2; obtain ⟨c, hg, hX, hM⟩ := h; exact rel_both (X := X) (M := M) hg (ofEdge_e hg hX hM r1 r2)
  · intro X M h u1 u2 r1 r2; obtain ⟨c, hg, hX, hM⟩ := h; exact rel_both (X := X) (M := M) hg (edge_e hg hX hM r1 r2)
  · intro X M h u1 u2 u3 r1 r2 r3; obtain ⟨c, hg, hX, hM⟩ := h; exact rel_both (X := X) (M := M) hg (stretch_e hg hX hM r1 r2 r3)
  · intro X M h u1 u2 u3 r1 r2 r3; obtain ⟨c, hg, hX, hM⟩ := h; exact rel_both (X := X) (M := M) hg (hidden_e hg hX hM r1 r2 r3)
  · intro X M h u1 u2 u3 r1 r2 r3; obtain ⟨c, hg, hX, hM⟩ := h; exact rel_both (X := X) (M := M) hg (piece_e hg hX hM r1 r2 r3)
  · intro X M h u1 u2 u3 r1 r2 r3; obtain ⟨c, hg, hX, hM⟩ := h; exact rel_both (X := X) (M := M) hg (crossing_e hg hX hM r1 r2 r3)
  · intro X M h u1 u2 r1 r2; obtain ⟨c, hg, hX, hM⟩ := h; exact rel_both (X := X) (M := M) hg (stroke_e hg hX hM r1 r2)
  · intro X M h u1 u2 u3 r1 r2 r3; obtain ⟨c, hg, hX, hM⟩ := h; exact rel_both (X := X) (M := M) hg (strokePiece_e hg hX hM r1 r2 r3)
  · intro X M h u1 r1; obtain ⟨c, hg, hX, hM⟩ := h; exact rel_both (X := X) (M := M) hg (many_e hg hX hM r1)
theorem the_start : RelXM ZX0 ZM0 := by
  refine rel_rst ?_ ?_ ⟨rfl, rfl, rfl⟩
  · exact ⟨rfl, rfl, rfl, rfl, rfl, rfl, fun _ => rfl, fun _ => rfl, fun _ => rfl, fun _ => rfl, fun _ => rfl, fun _ => rfl, fun _ => rfl⟩
  · refine ⟨by decide, by decide, by decide, by decide, fun j => ?_, fun j => ?_, fun f hf => ?_, fun j => ?_, fun w hw => ?_⟩
    · show (-9 ≤ (0 : Int) ∧ (0 : Int) ≤ 9) ∧ (-9 ≤ (0 : Int) ∧ (0 : Int) ≤ 9) ∧ (-9 ≤ (0 : Int) ∧ (0 : Int) ≤ 9)
      decide
    · show 0 ≤ (0 : Int) ∧ (0 : Int) < 16
      decide
    · have : (f : Int) < 0 := hf
      exact absurd this (by omega)
    · show (0 ≤ (0 : Int) ∧ (0 : Int) < 16) ∧ (0 ≤ (0 : Int) ∧ (0 : Int) < 16)
      decide
    · have : (w : Int) < 0 := hw
      exact absurd this (by omega)
