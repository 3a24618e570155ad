section W
variable {p : Program} {l : Launch} {e : Env} {R : Room} {s : State} {m : MethodId} {args : Array Value} {below : List Frame} {meth : Method} {c : Code} {Q : State → Prop} {D : va_G} {A : Nat → Prop} {a : Nat → Nat} {g : Nat → ClassId}
set_option maxHeartbeats 4000000 in
set_option maxRecDepth 100000 in
theorem t_X8_ofFace {z : SZ × Int} (hc : Cx p R s m args c D (tysWX g) A (WX a g) cX8_ofFace 3 RX8 6 157) (hr : Rti p l e R s m args below meth c Q D A (WX a g) cX8_ofFace (em z.1, Int32.ofInt z.2)) : ∀ (S : SZ) (v1 : Int) (v2 : Int), f_X8_ofFace S v1 v2 = some z → Go p l e R s m args below meth c Q D A (WX a g) 3 (em S) 0 [(0, .ref (a 0)), (1, .int (Int32.ofInt v1)), (2, .int (Int32.ofInt v2))] [] := by
  obtain ⟨⟨hx, hb, hml, hown, hts⟩, -, -, -, hnf, hno⟩ := id hc
  intro S v1 v2 h H locs ls hP hS hl
  rw [f_X8_ofFace] at h
  replace hl : lv_has ls 3 [(0, .ref (a 0)), (1, .int (Int32.ofInt v1)), (2, .int (Int32.ofInt v2))] := hl
  refine lv_aload_n hx hb dX8_ofFace_0 rfl (lv_at hl 0 rfl) ?_
  refine gfWX_HiddenEdges_mesh hc hP q_15 dX8_ofFace_1 ?_
  refine lv_iload_n hx hb dX8_ofFace_4 rfl (lv_at hl 1 rfl) ?_
  obtain ⟨S1, x3, hk2, h⟩ := ob2_at h
  refine cl_Vi (As := [.int (Int32.ofInt v1)]) (rest := []) hc k_X4_hasFace q_636 (c_X4_hasFace hk2) hP hS (WX_1 a g (em S)) rfl rfl rfl hl (Nat.le_of_ble_eq_true rfl) dX8_ofFace_5 (Nat.le_of_ble_eq_true rfl) (Nat.le_of_ble_eq_true rfl) rfl (fun H locs hP hS => ?_)
  obtain ⟨h4, h⟩ := chk_at h
  refine z_if_ne (tgt := 13) hx hb h4 dX8_ofFace_8 (by decide) (fun hq => ?_) (fun hq => ?_)
  · replace h := if_no hq h
    refine lv_iload_n hx hb dX8_ofFace_13 rfl (lv_at hl 2 rfl) ?_
    obtain ⟨h5, h⟩ := chk_at h
    by_cases hsw : v2 < 0 ∨ 4 < v2
    · replace h := if_yes hsw h
      refine lv_tableOut (tgt := 115) hx hb dX8_ofFace_14 (by rw [o32 h5]; exact hsw) (by decide) ?_
      refine lv_bipush (v := Int32.ofInt (-2 : Int)) hx hb dX8_ofFace_115 (by decide) ?_
      obtain rfl := Option.some.inj h
      exact hr _ _ _ _ dX8_ofFace_117 hP hS
    replace h := if_no hsw h
    by_cases hs0 : v2 = 0
    · replace h := if_yes hs0 h
      refine lv_tableIn (off := 34) (tgt := 48) hx hb dX8_ofFace_14 (by rw [o32 h5]; exact fun h9 => hsw (Or.inl h9)) (by rw [o32 h5]; exact fun h9 => hsw (Or.inr h9)) (by rw [o32 h5, hs0]; rfl) (by decide) ?_
      refine lv_aload_n hx hb dX8_ofFace_48 rfl (lv_at hl 0 rfl) ?_
      refine gfWX_HiddenEdges_mesh hc hP q_15 dX8_ofFace_49 ?_
      refine lv_iload_n hx hb dX8_ofFace_52 rfl (lv_at hl 1 rfl) ?_
      refine lv_iload_n hx hb dX8_ofFace_53 rfl (lv_at hl 2 rfl) ?_
      obtain ⟨S6, x8, hk7, h⟩ := ob2_at h
      refine cl_Vi (As := [.int (Int32.ofInt v1), .int (Int32.ofInt v2)]) (rest := []) hc k_X4_cornerOf q_640 (c_X4_cornerOf hk7) hP hS (WX_1 a g (em S1)) rfl rfl rfl hl (Nat.le_of_ble_eq_true rfl) dX8_ofFace_54 (Nat.le_of_ble_eq_true rfl) (Nat.le_of_ble_eq_true rfl) rfl (fun H locs hP hS => ?_)
      obtain rfl := Option.some.inj h
      exact hr _ _ _ _ dX8_ofFace_57 hP hS
    replace h := if_no hs0 h
    by_cases hs1 : v2 = 1
    · replace h := if_yes hs1 h
      refine lv_tableIn (off := 34) (tgt := 48) hx hb dX8_ofFace_14 (by rw [o32 h5]; exact fun h9 => hsw (Or.inl h9)) (by rw [o32 h5]; exact fun h9 => hsw (Or.inr h9)) (by rw [o32 h5, hs1]; rfl) (by decide) ?_
      refine lv_aload_n hx hb dX8_ofFace_48 rfl (lv_at hl 0 rfl) ?_
      refine gfWX_HiddenEdges_mesh hc hP q_15 dX8_ofFace_49 ?_
      refine lv_iload_n hx hb dX8_ofFace_52 rfl (lv_at hl 1 rfl) ?_
      refine lv_iload_n hx hb dX8_ofFace_53 rfl (lv_at hl 2 rfl) ?_
      obtain ⟨S9, x11, hk10, h⟩ := ob2_at h
      refine cl_Vi (As := [.int (Int32.ofInt v1), .int (Int32.ofInt v2)]) (rest := []) hc k_X4_cornerOf q_640 (c_X4_cornerOf hk10) hP hS (WX_1 a g (em S1)) rfl rfl rfl hl (Nat.le_of_ble_eq_true rfl) dX8_ofFace_54 (Nat.le_of_ble_eq_true rfl) (Nat.le_of_ble_eq_true rfl) rfl (fun H locs hP hS => ?_)
      obtain rfl := Option.some.inj h
      exact hr _ _ _ _ dX8_ofFace_57 hP hS
    replace h := if_no hs1 h
    by_cases hs2 : v2 = 2
    · replace h := if_yes hs2 h
      refine lv_tableIn (off := 34) (tgt := 48) hx hb dX8_ofFace_14 (by rw [o32 h5]; exact fun h9 => hsw (Or.inl h9)) (by rw [o32 h5]; exact fun h9 => hsw (Or.inr h9)) (by rw [o32 h5, hs2]; rfl) (by decide) ?_
      refine lv_aload_n hx hb dX8_ofFace_48 rfl (lv_at hl 0 rfl) ?_
      refine gfWX_HiddenEdges_mesh hc hP q_15 dX8_ofFace_49 ?_
      refine lv_iload_n hx hb dX8_ofFace_52 rfl (lv_at hl 1 rfl) ?_
      refine lv_iload_n hx hb dX8_ofFace_53 rfl (lv_at hl 2 rfl) ?_
      obtain ⟨S12, x14, hk13, h⟩ := ob2_at h
      refine cl_Vi (As := [.int (Int32.ofInt v1), .int (Int32.ofInt v2)]) (rest := []) hc k_X4_cornerOf q_640 (c_X4_cornerOf hk13) hP hS (WX_1 a g (em S1)) rfl rfl rfl hl (Nat.le_of_ble_eq_true rfl) dX8_ofFace_54 (Nat.le_of_ble_eq_true rfl) (Nat.le_of_ble_eq_true rfl) rfl (fun H locs hP hS => ?_)
      obtain rfl := Option.some.inj h
      exact hr _ _ _ _ dX8_ofFace_57 hP hS
    replace h := if_no hs2 h
    by_cases hs3 : v2 = 3
    · replace h := if_yes hs3 h
      refine lv_tableIn (off := 44) (tgt := 58) hx hb dX8_ofFace_14 (by rw [o32 h5]; exact fun h9 => hsw (Or.inl h9)) (by rw [o32 h5]; exact fun h9 => hsw (Or.inr h9)) (by rw [o32 h5, hs3]; rfl) (by decide) ?_
      refine lv_aload_n hx hb dX8_ofFace_58 rfl (lv_at hl 0 rfl) ?_
      refine lv_iconst (v := Int32.ofInt (1 : Int)) hx hb dX8_ofFace_59 (by decide) ?_
      obtain ⟨S15, hk16, h⟩ := ob1_at h
      refine cl_Vv (As := [.int (Int32.ofInt (1 : Int))]) (rest := []) hc k_X8_settle q_332 (c_X8_settle hk16) hP hS (WX_0 a g (em S1)) rfl rfl rfl hl (Nat.le_of_ble_eq_true rfl) dX8_ofFace_60 (Nat.le_of_ble_eq_true rfl) (Nat.le_of_ble_eq_true rfl) rfl (fun H locs hP hS => ?_)
      refine lv_aload_n hx hb dX8_ofFace_63 rfl (lv_at hl 0 rfl) ?_
      refine gfWX_HiddenEdges_sight hc hP q_19 dX8_ofFace_64 ?_
      refine gfWX_Sight_swing hc hP q_632 dX8_ofFace_67 ?_
      refine lv_iload_n hx hb dX8_ofFace_70 rfl (lv_at hl 1 rfl) ?_
      obtain ⟨h17, h⟩ := chk_at h
      refine azWX_Sight_swing hc hP h17 dX8_ofFace_71 ?_
      obtain ⟨h18, h⟩ := chk_at h
      refine z_if_le (tgt := 79) hx hb h18 dX8_ofFace_72 (by decide) (fun hq => ?_) (fun hq => ?_)
      · replace h := if_yes hq h
        refine lv_aload_n hx hb dX8_ofFace_79 rfl (lv_at hl 0 rfl) ?_
        refine gfWX_HiddenEdges_sight hc hP q_19 dX8_ofFace_80 ?_
        refine gfWX_Sight_swing hc hP q_632 dX8_ofFace_83 ?_
        refine lv_iload_n hx hb dX8_ofFace_86 rfl (lv_at hl 1 rfl) ?_
        refine azWX_Sight_swing hc hP h17 dX8_ofFace_87 ?_
        refine z_if_ge (tgt := 95) hx hb h18 dX8_ofFace_88 (by decide) (fun hq => ?_) (fun hq => ?_)
        · replace h := if_yes hq h
          refine lv_iconst (v := Int32.ofInt (0 : Int)) hx hb dX8_ofFace_95 (by decide) ?_
          obtain rfl := Option.some.inj h
          exact hr _ _ _ _ dX8_ofFace_96 hP hS
        · replace h := if_no hq h
          refine lv_iconst (v := Int32.ofInt (2 : Int)) hx hb dX8_ofFace_91 (by decide) ?_
          refine lv_goto (tgt := 96) hx hb dX8_ofFace_92 (by decide) ?_
          obtain rfl := Option.some.inj h
          exact hr _ _ _ _ dX8_ofFace_96 hP hS
      · replace h := if_no hq h
        refine lv_iconst (v := Int32.ofInt (1 : Int)) hx hb dX8_ofFace_75 (by decide) ?_
        refine lv_goto (tgt := 96) hx hb dX8_ofFace_76 (by decide) ?_
        obtain rfl := Option.some.inj h
        exact hr _ _ _ _ dX8_ofFace_96 hP hS
    replace h := if_no hs3 h
    by_cases hs4 : v2 = 4
    · replace h := if_yes hs4 h
      refine lv_tableIn (off := 83) (tgt := 97) hx hb dX8_ofFace_14 (by rw [o32 h5]; exact fun h9 => hsw (Or.inl h9)) (by rw [o32 h5]; exact fun h9 => hsw (Or.inr h9)) (by rw [o32 h5, hs4]; rfl) (by decide) ?_
      refine lv_aload_n hx hb dX8_ofFace_97 rfl (lv_at hl 0 rfl) ?_
      refine lv_iconst (v := Int32.ofInt (1 : Int)) hx hb dX8_ofFace_98 (by decide) ?_
      obtain ⟨S19, hk20, h⟩ := ob1_at h
      refine cl_Vv (As := [.int (Int32.ofInt (1 : Int))]) (rest := []) hc k_X8_settle q_332 (c_X8_settle hk20) hP hS (WX_0 a g (em S1)) rfl rfl rfl hl (Nat.le_of_ble_eq_true rfl) dX8_ofFace_99 (Nat.le_of_ble_eq_true rfl) (Nat.le_of_ble_eq_true rfl) rfl (fun H locs hP hS => ?_)
      refine lv_aload_n hx hb dX8_ofFace_102 rfl (lv_at hl 0 rfl) ?_
      refine gfWX_HiddenEdges_sight hc hP q_19 dX8_ofFace_103 ?_
      refine gfWX_Sight_swing hc hP q_632 dX8_ofFace_106 ?_
      refine lv_iload_n hx hb dX8_ofFace_109 rfl (lv_at hl 1 rfl) ?_
      obtain ⟨h21, h⟩ := chk_at h
      refine azWX_Sight_swing hc hP h21 dX8_ofFace_110 ?_
      obtain ⟨h22, h⟩ := chk_at h
      refine z_mabs hx hb (hml.trans hl.1.symm) hown (hts _ q_633) (hts _ q_634) (hts _ q_389) (hts _ q_635) (Nat.le_trans (Nat.le_of_ble_eq_true rfl) hnf) (Nat.le_trans (Nat.le_of_ble_eq_true rfl) hno) h22 dX8_ofFace_111 ?_
      obtain rfl := Option.some.inj h
      exact hr _ _ _ _ dX8_ofFace_114 hP hS
    replace h := if_no hs4 h
    cases h
  · replace h := if_yes hq h
    refine lv_iconst (v := Int32.ofInt (-1 : Int)) hx hb dX8_ofFace_11 (by decide) ?_
    obtain rfl := Option.some.inj h
    exact hr _ _ _ _ dX8_ofFace_12 hP hS
abbrev rm_X8_ofFace : Room := { frames := 6, cells := 0, slots := 0, locals := 157 }
theorem c_X8_ofFace {l : Launch} {D : va_G} {a : Nat → Nat} {g : Nat → ClassId} {S : SZ} {v1 : Int} {v2 : Int} {Z1 : SZ} {r1 : Int} (h : f_X8_ofFace S v1 v2 = some (Z1, r1)) : MetI l D (tysWX g) (WX a g) E0 yX8_ofFace cX8_ofFace 3 (some .int) rm_X8_ofFace [.ref (a 0), .int (Int32.ofInt v1), .int (Int32.ofInt v2)] (em S) (em Z1, Int32.ofInt r1) := mk_i (WX_same a g) (by decide) (em Z1, Int32.ofInt r1) (Nat.le_of_ble_eq_true rfl) (fun p e s m args below meth c A Q hc hE hr => t_X8_ofFace (z := (Z1, r1)) hc hr S v1 v2 h)
theorem k_X8_ofFace : CalV RX8 yX8_ofFace cX8_ofFace 3 (some .int) rm_X8_ofFace 2 := ⟨q_629, q_630, q_2, q_631, by decide +kernel, rfl, rfl⟩
set_option maxHeartbeats 4000000 in
set_option maxRecDepth 100000 in
theorem t_X8_ofEdge {z : SZ × Int} (hc : Cx p R s m args c D (tysWX g) A (WX a g) cX8_ofEdge 3 RX8 6 157) (hr : Rti p l e R s m args below meth c Q D A (WX a g) cX8_ofEdge (em z.1, Int32.ofInt z.2)) : ∀ (S : SZ) (v1 : Int) (v2 : Int), f_X8_ofEdge S v1 v2 = some z → Go p l e R s m args below meth c Q D A (WX a g) 3 (em S) 0 [(0, .ref (a 0)), (1, .int (Int32.ofInt v1)), (2, .int (Int32.ofInt v2))] [] := by
  obtain ⟨⟨hx, hb, hml, hown, hts⟩, -, -, -, hnf, hno⟩ := id hc
  intro S v1 v2 h H locs ls hP hS hl
  rw [f_X8_ofEdge] at h
  replace hl : lv_has ls 3 [(0, .ref (a 0)), (1, .int (Int32.ofInt v1)), (2, .int (Int32.ofInt v2))] := hl
  refine lv_aload_n hx hb dX8_ofEdge_0 rfl (lv_at hl 0 rfl) ?_
  refine lv_iconst (v := Int32.ofInt (1 : Int)) hx hb dX8_ofEdge_1 (by decide) ?_
  obtain ⟨S1, hk2, h⟩ := ob1_at h
  refine cl_Vv (As := [.int (Int32.ofInt (1 : Int))]) (rest := []) hc k_X8_settle q_332 (c_X8_settle hk2) hP hS (WX_0 a g (em S)) rfl rfl rfl hl (Nat.le_of_ble_eq_true rfl) dX8_ofEdge_2 (Nat.le_of_ble_eq_true rfl) (Nat.le_of_ble_eq_true rfl) rfl (fun H locs hP hS => ?_)
  refine lv_aload_n hx hb dX8_ofEdge_5 rfl (lv_at hl 0 rfl) ?_
  refine gfWX_HiddenEdges_edges hc hP q_23 dX8_ofEdge_6 ?_
  refine lv_iload_n hx hb dX8_ofEdge_9 rfl (lv_at hl 1 rfl) ?_
  obtain ⟨S3, x5, hk4, h⟩ := ob2_at h
  refine cl_Vi (As := [.int (Int32.ofInt v1)]) (rest := []) hc k_X1_has q_658 (c_X1_has hk4) hP hS (WX_3 a g (em S1)) rfl rfl rfl hl (Nat.le_of_ble_eq_true rfl) dX8_ofEdge_10 (Nat.le_of_ble_eq_true rfl) (Nat.le_of_ble_eq_true rfl) rfl (fun H locs hP hS => ?_)
  obtain ⟨h6, h⟩ := chk_at h
  refine z_if_ne (tgt := 18) hx hb h6 dX8_ofEdge_13 (by decide) (fun hq => ?_) (fun hq => ?_)
  · replace h := if_no hq h
    refine lv_iload_n hx hb dX8_ofEdge_18 rfl (lv_at hl 2 rfl) ?_
    obtain ⟨h7, h⟩ := chk_at h
    by_cases hsw : v2 < 0 ∨ 6 < v2
    · replace h := if_yes hsw h
      refine lv_tableOut (tgt := 185) hx hb dX8_ofEdge_19 (by rw [o32 h7]; exact hsw) (by decide) ?_
      refine lv_bipush (v := Int32.ofInt (-2 : Int)) hx hb dX8_ofEdge_185 (by decide) ?_
      obtain rfl := Option.some.inj h
      exact hr _ _ _ _ dX8_ofEdge_187 hP hS
    replace h := if_no hsw h
    by_cases hs0 : v2 = 0
    · replace h := if_yes hs0 h
      refine lv_tableIn (off := 41) (tgt := 60) hx hb dX8_ofEdge_19 (by rw [o32 h7]; exact fun h9 => hsw (Or.inl h9)) (by rw [o32 h7]; exact fun h9 => hsw (Or.inr h9)) (by rw [o32 h7, hs0]; rfl) (by decide) ?_
      refine lv_aload_n hx hb dX8_ofEdge_60 rfl (lv_at hl 0 rfl) ?_
      refine gfWX_HiddenEdges_edges hc hP q_23 dX8_ofEdge_61 ?_
      refine gfWX_Edges_low hc hP q_653 dX8_ofEdge_64 ?_
      refine lv_iload_n hx hb dX8_ofEdge_67 rfl (lv_at hl 1 rfl) ?_
      obtain ⟨h8, h⟩ := chk_at h
      refine azWX_Edges_low hc hP h8 dX8_ofEdge_68 ?_
      obtain rfl := Option.some.inj h
      exact hr _ _ _ _ dX8_ofEdge_69 hP hS
    replace h := if_no hs0 h
    by_cases hs1 : v2 = 1
    · replace h := if_yes hs1 h
      refine lv_tableIn (off := 51) (tgt := 70) hx hb dX8_ofEdge_19 (by rw [o32 h7]; exact fun h9 => hsw (Or.inl h9)) (by rw [o32 h7]; exact fun h9 => hsw (Or.inr h9)) (by rw [o32 h7, hs1]; rfl) (by decide) ?_
      refine lv_aload_n hx hb dX8_ofEdge_70 rfl (lv_at hl 0 rfl) ?_
      refine gfWX_HiddenEdges_edges hc hP q_23 dX8_ofEdge_71 ?_
      refine gfWX_Edges_high hc hP q_654 dX8_ofEdge_74 ?_
      refine lv_iload_n hx hb dX8_ofEdge_77 rfl (lv_at hl 1 rfl) ?_
      obtain ⟨h9, h⟩ := chk_at h
      refine azWX_Edges_high hc hP h9 dX8_ofEdge_78 ?_
      obtain rfl := Option.some.inj h
      exact hr _ _ _ _ dX8_ofEdge_79 hP hS
    replace h := if_no hs1 h
    by_cases hs2 : v2 = 2
    · replace h := if_yes hs2 h
      refine lv_tableIn (off := 61) (tgt := 80) hx hb dX8_ofEdge_19 (by rw [o32 h7]; exact fun h9 => hsw (Or.inl h9)) (by rw [o32 h7]; exact fun h9 => hsw (Or.inr h9)) (by rw [o32 h7, hs2]; rfl) (by decide) ?_
      refine lv_aload_n hx hb dX8_ofEdge_80 rfl (lv_at hl 0 rfl) ?_
      refine gfWX_HiddenEdges_edges hc hP q_23 dX8_ofEdge_81 ?_
      refine gfWX_Edges_sharing hc hP q_655 dX8_ofEdge_84 ?_
      refine lv_iload_n hx hb dX8_ofEdge_87 rfl (lv_at hl 1 rfl) ?_
      obtain ⟨h10, h⟩ := chk_at h
      refine azWX_Edges_sharing hc hP h10 dX8_ofEdge_88 ?_
      obtain rfl := Option.some.inj h
      exact hr _ _ _ _ dX8_ofEdge_89 hP hS
    replace h := if_no hs2 h
    by_cases hs3 : v2 = 3
    · replace h := if_yes hs3 h
      refine lv_tableIn (off := 71) (tgt := 90) hx hb dX8_ofEdge_19 (by rw [o32 h7]; exact fun h9 => hsw (Or.inl h9)) (by rw [o32 h7]; exact fun h9 => hsw (Or.inr h9)) (by rw [o32 h7, hs3]; rfl) (by decide) ?_
      refine lv_aload_n hx hb dX8_ofEdge_90 rfl (lv_at hl 0 rfl) ?_
      refine gfWX_HiddenEdges_edges hc hP q_23 dX8_ofEdge_91 ?_
      refine gfWX_Edges_sort hc hP q_656 dX8_ofEdge_94 ?_
      refine lv_iload_n hx hb dX8_ofEdge_97 rfl (lv_at hl 1 rfl) ?_
      obtain ⟨h11, h⟩ := chk_at h
      refine azWX_Edges_sort hc hP h11 dX8_ofEdge_98 ?_
      obtain rfl := Option.some.inj h
      exact hr _ _ _ _ dX8_ofEdge_99 hP hS
    replace h := if_no hs3 h
    by_cases hs4 : v2 = 4
    · replace h := if_yes hs4 h
      refine lv_tableIn (off := 81) (tgt := 100) hx hb dX8_ofEdge_19 (by rw [o32 h7]; exact fun h9 => hsw (Or.inl h9)) (by rw [o32 h7]; exact fun h9 => hsw (Or.inr h9)) (by rw [o32 h7, hs4]; rfl) (by decide) ?_
      refine lv_aload_n hx hb dX8_ofEdge_100 rfl (lv_at hl 0 rfl) ?_
      refine gfWX_HiddenEdges_cuts hc hP q_27 dX8_ofEdge_101 ?_
      refine lv_iload_n hx hb dX8_ofEdge_104 rfl (lv_at hl 1 rfl) ?_
      refine lv_aload_n hx hb dX8_ofEdge_105 rfl (lv_at hl 0 rfl) ?_
      refine gfWX_HiddenEdges_edges hc hP q_23 dX8_ofEdge_106 ?_
      refine lv_aload_n hx hb dX8_ofEdge_109 rfl (lv_at hl 0 rfl) ?_
      refine gfWX_HiddenEdges_sight hc hP q_19 dX8_ofEdge_110 ?_
      obtain ⟨S12, hk13, h⟩ := ob1_at h
      refine cl_Vv (As := [.int (Int32.ofInt v1), .ref (a 3), .ref (a 2)]) (rest := []) hc k_X0_load q_662 (c_X0_load hk13) hP hS (WX_4 a g (em S3)) rfl rfl rfl hl (Nat.le_of_ble_eq_true rfl) dX8_ofEdge_113 (Nat.le_of_ble_eq_true rfl) (Nat.le_of_ble_eq_true rfl) rfl (fun H locs hP hS => ?_)
      refine lv_aload_n hx hb dX8_ofEdge_116 rfl (lv_at hl 0 rfl) ?_
      refine gfWX_HiddenEdges_cuts hc hP q_27 dX8_ofEdge_117 ?_
      obtain ⟨S14, x16, hk15, h⟩ := ob2_at h
      refine cl_Vi (As := []) (rest := []) hc k_X0_pieceCount q_663 (c_X0_pieceCount hk15) hP hS (WX_4 a g (em S12)) rfl rfl rfl hl (Nat.le_of_ble_eq_true rfl) dX8_ofEdge_120 (Nat.le_of_ble_eq_true rfl) (Nat.le_of_ble_eq_true rfl) rfl (fun H locs hP hS => ?_)
      obtain rfl := Option.some.inj h
      exact hr _ _ _ _ dX8_ofEdge_123 hP hS
    replace h := if_no hs4 h
    by_cases hs5 : v2 = 5
    · replace h := if_yes hs5 h
      refine lv_tableIn (off := 105) (tgt := 124) hx hb dX8_ofEdge_19 (by rw [o32 h7]; exact fun h9 => hsw (Or.inl h9)) (by rw [o32 h7]; exact fun h9 => hsw (Or.inr h9)) (by rw [o32 h7, hs5]; rfl) (by decide) ?_
      refine lv_aload_n hx hb dX8_ofEdge_124 rfl (lv_at hl 0 rfl) ?_
      refine gfWX_HiddenEdges_cuts hc hP q_27 dX8_ofEdge_125 ?_
      refine lv_iload_n hx hb dX8_ofEdge_128 rfl (lv_at hl 1 rfl) ?_
      refine lv_aload_n hx hb dX8_ofEdge_129 rfl (lv_at hl 0 rfl) ?_
      refine gfWX_HiddenEdges_edges hc hP q_23 dX8_ofEdge_130 ?_
      refine lv_aload_n hx hb dX8_ofEdge_133 rfl (lv_at hl 0 rfl) ?_
      refine gfWX_HiddenEdges_sight hc hP q_19 dX8_ofEdge_134 ?_
      obtain ⟨S17, hk18, h⟩ := ob1_at h
      refine cl_Vv (As := [.int (Int32.ofInt v1), .ref (a 3), .ref (a 2)]) (rest := []) hc k_X0_load q_662 (c_X0_load hk18) hP hS (WX_4 a g (em S3)) rfl rfl rfl hl (Nat.le_of_ble_eq_true rfl) dX8_ofEdge_137 (Nat.le_of_ble_eq_true rfl) (Nat.le_of_ble_eq_true rfl) rfl (fun H locs hP hS => ?_)
      refine lv_aload_n hx hb dX8_ofEdge_140 rfl (lv_at hl 0 rfl) ?_
      refine gfWX_HiddenEdges_cuts hc hP q_27 dX8_ofEdge_141 ?_
      refine gzWX_Cuts_visible hc hP q_657 dX8_ofEdge_144 ?_
      obtain ⟨S19, x21, hk20, h⟩ := ob2_at h
      refine cl_Si (As := [.long (Int64.ofInt (zl S17 0))]) (rest := []) hc k_J13_bitCount q_664 (c_J13_bitCount hk20) hP hS rfl hl (Nat.le_of_ble_eq_true rfl) dX8_ofEdge_147 (Nat.le_of_ble_eq_true rfl) (Nat.le_of_ble_eq_true rfl) rfl (fun H locs hP hS => ?_)
      obtain rfl := Option.some.inj h
      exact hr _ _ _ _ dX8_ofEdge_150 hP hS
    replace h := if_no hs5 h
    by_cases hs6 : v2 = 6
    · replace h := if_yes hs6 h
      refine lv_tableIn (off := 132) (tgt := 151) hx hb dX8_ofEdge_19 (by rw [o32 h7]; exact fun h9 => hsw (Or.inl h9)) (by rw [o32 h7]; exact fun h9 => hsw (Or.inr h9)) (by rw [o32 h7, hs6]; rfl) (by decide) ?_
      refine lv_aload_n hx hb dX8_ofEdge_151 rfl (lv_at hl 0 rfl) ?_
      refine gfWX_HiddenEdges_mesh hc hP q_15 dX8_ofEdge_152 ?_
      refine lv_aload_n hx hb dX8_ofEdge_155 rfl (lv_at hl 0 rfl) ?_
      refine gfWX_HiddenEdges_edges hc hP q_23 dX8_ofEdge_156 ?_
      refine gfWX_Edges_low hc hP q_653 dX8_ofEdge_159 ?_
      refine lv_iload_n hx hb dX8_ofEdge_162 rfl (lv_at hl 1 rfl) ?_
      obtain ⟨h22, h⟩ := chk_at h
      refine azWX_Edges_low hc hP h22 dX8_ofEdge_163 ?_
      refine lv_aload_n hx hb dX8_ofEdge_164 rfl (lv_at hl 0 rfl) ?_
      refine gfWX_HiddenEdges_edges hc hP q_23 dX8_ofEdge_165 ?_
      refine gfWX_Edges_high hc hP q_654 dX8_ofEdge_168 ?_
      refine lv_iload_n hx hb dX8_ofEdge_171 rfl (lv_at hl 1 rfl) ?_
      refine azWX_Edges_high hc hP h22 dX8_ofEdge_172 ?_
      obtain ⟨S23, x25, hk24, h⟩ := ob2_at h
      refine cl_Vi (As := [.int (Int32.ofInt (za S3 13 (v1).toNat)), .int (Int32.ofInt (za S3 14 (v1).toNat))]) (rest := []) hc k_X4_hasWire q_233 (c_X4_hasWire hk24) hP hS (WX_1 a g (em S3)) rfl rfl rfl hl (Nat.le_of_ble_eq_true rfl) dX8_ofEdge_173 (Nat.le_of_ble_eq_true rfl) (Nat.le_of_ble_eq_true rfl) rfl (fun H locs hP hS => ?_)
      obtain ⟨h26, h⟩ := chk_at h
      refine z_if_eq (tgt := 183) hx hb h26 dX8_ofEdge_176 (by decide) (fun hq => ?_) (fun hq => ?_)
      · replace h := if_yes hq h
        refine lv_iconst (v := Int32.ofInt (0 : Int)) hx hb dX8_ofEdge_183 (by decide) ?_
        obtain rfl := Option.some.inj h
        exact hr _ _ _ _ dX8_ofEdge_184 hP hS
      · replace h := if_no hq h
        refine lv_iconst (v := Int32.ofInt (1 : Int)) hx hb dX8_ofEdge_179 (by decide) ?_
        refine lv_goto (tgt := 184) hx hb dX8_ofEdge_180 (by decide) ?_
        obtain rfl := Option.some.inj h
        exact hr _ _ _ _ dX8_ofEdge_184 hP hS
    replace h := if_no hs6 h
    cases h
  · replace h := if_yes hq h
    refine lv_iconst (v := Int32.ofInt (-1 : Int)) hx hb dX8_ofEdge_16 (by decide) ?_
    obtain rfl := Option.some.inj h
    exact hr _ _ _ _ dX8_ofEdge_17 hP hS
abbrev rm_X8_ofEdge : Room := { frames := 6, cells := 0, slots := 0, locals := 157 }
theorem c_X8_ofEdge {l : Launch} {D : va_G} {a : Nat → Nat} {g : Nat → ClassId} {S : SZ} {v1 : Int} {v2 : Int} {Z1 : SZ} {r1 : Int} (h : f_X8_ofEdge S v1 v2 = some (Z1, r1)) : MetI l D (tysWX g) (WX a g) E0 yX8_ofEdge cX8_ofEdge 3 (some .int) rm_X8_ofEdge [.ref (a 0), .int (Int32.ofInt v1), .int (Int32.ofInt v2)] (em S) (em Z1, Int32.ofInt r1) := mk_i (WX_same a g) (by decide) (em Z1, Int32.ofInt r1) (Nat.le_of_ble_eq_true rfl) (fun p e s m args below meth c A Q hc hE hr => t_X8_ofEdge (z := (Z1, r1)) hc hr S v1 v2 h)
theorem k_X8_ofEdge : CalV RX8 yX8_ofEdge cX8_ofEdge 3 (some .int) rm_X8_ofEdge 2 := ⟨q_650, q_651, q_2, q_652, by decide +kernel, rfl, rfl⟩
set_option maxHeartbeats 4000000 in
set_option maxRecDepth 100000 in
theorem t_X8_edge {z : SZ × Int} (hc : Cx p R s m args c D (tysWX g) A (WX a g) cX8_edge 3 RX8 6 157) (hr : Rti p l e R s m args below meth c Q D A (WX a g) cX8_edge (em z.1, Int32.ofInt z.2)) : ∀ (S : SZ) (v1 : Int) (v2 : Int), f_X8_edge S v1 v2 = some z → Go p l e R s m args below meth c Q D A (WX a g) 3 (em S) 0 [(0, .ref (a 0)), (1, .int (Int32.ofInt v1)), (2, .int (Int32.ofInt v2))] [] := by
  obtain ⟨⟨hx, hb, hml, hown, hts⟩, -, -, -, hnf, hno⟩ := id hc
  intro S v1 v2 h H locs ls hP hS hl
  rw [f_X8_edge] at h
  replace hl : lv_has ls 3 [(0, .ref (a 0)), (1, .int (Int32.ofInt v1)), (2, .int (Int32.ofInt v2))] := hl
  refine lv_aload_n hx hb dX8_edge_0 rfl (lv_at hl 0 rfl) ?_
  refine gfWX_HiddenEdges_mesh hc hP q_15 dX8_edge_1 ?_
  refine lv_iload_n hx hb dX8_edge_4 rfl (lv_at hl 1 rfl) ?_
  obtain ⟨S1, x3, hk2, h⟩ := ob2_at h
  refine cl_Vi (As := [.int (Int32.ofInt v1)]) (rest := []) hc k_X4_hasPoint q_175 (c_X4_hasPoint hk2) hP hS (WX_1 a g (em S)) rfl rfl rfl hl (Nat.le_of_ble_eq_true rfl) dX8_edge_5 (Nat.le_of_ble_eq_true rfl) (Nat.le_of_ble_eq_true rfl) rfl (fun H locs hP hS => ?_)
  obtain ⟨h4, h⟩ := chk_at h
  refine z_if_eq (tgt := 22) hx hb h4 dX8_edge_8 (by decide) (fun hq => ?_) (fun hq => ?_)
  · replace h := if_yes hq h
    refine lv_iconst (v := Int32.ofInt (-1 : Int)) hx hb dX8_edge_22 (by decide) ?_
    obtain rfl := Option.some.inj h
    exact hr _ _ _ _ dX8_edge_23 hP hS
  · replace h := if_no hq h
    refine lv_aload_n hx hb dX8_edge_11 rfl (lv_at hl 0 rfl) ?_
    refine gfWX_HiddenEdges_mesh hc hP q_15 dX8_edge_12 ?_
    refine lv_iload_n hx hb dX8_edge_15 rfl (lv_at hl 2 rfl) ?_
    obtain ⟨S5, x7, hk6, h⟩ := ob2_at h
    refine cl_Vi (As := [.int (Int32.ofInt v2)]) (rest := []) hc k_X4_hasPoint q_175 (c_X4_hasPoint hk6) hP hS (WX_1 a g (em S1)) rfl rfl rfl hl (Nat.le_of_ble_eq_true rfl) dX8_edge_16 (Nat.le_of_ble_eq_true rfl) (Nat.le_of_ble_eq_true rfl) rfl (fun H locs hP hS => ?_)
    obtain ⟨h8, h⟩ := chk_at h
    refine z_if_ne (tgt := 24) hx hb h8 dX8_edge_19 (by decide) (fun hq => ?_) (fun hq => ?_)
    · replace h := if_no hq h
      refine lv_aload_n hx hb dX8_edge_24 rfl (lv_at hl 0 rfl) ?_
      refine lv_iconst (v := Int32.ofInt (1 : Int)) hx hb dX8_edge_25 (by decide) ?_
      obtain ⟨S9, hk10, h⟩ := ob1_at h
      refine cl_Vv (As := [.int (Int32.ofInt (1 : Int))]) (rest := []) hc k_X8_settle q_332 (c_X8_settle hk10) hP hS (WX_0 a g (em S5)) rfl rfl rfl hl (Nat.le_of_ble_eq_true rfl) dX8_edge_26 (Nat.le_of_ble_eq_true rfl) (Nat.le_of_ble_eq_true rfl) rfl (fun H locs hP hS => ?_)
      refine lv_aload_n hx hb dX8_edge_29 rfl (lv_at hl 0 rfl) ?_
      refine gfWX_HiddenEdges_edges hc hP q_23 dX8_edge_30 ?_
      refine lv_iload_n hx hb dX8_edge_33 rfl (lv_at hl 1 rfl) ?_
      refine lv_iload_n hx hb dX8_edge_34 rfl (lv_at hl 2 rfl) ?_
      obtain ⟨S11, x13, hk12, h⟩ := ob2_at h
      refine cl_Vi (As := [.int (Int32.ofInt v1), .int (Int32.ofInt v2)]) (rest := []) hc k_X1_between q_681 (c_X1_between hk12) hP hS (WX_3 a g (em S9)) rfl rfl rfl hl (Nat.le_of_ble_eq_true rfl) dX8_edge_35 (Nat.le_of_ble_eq_true rfl) (Nat.le_of_ble_eq_true rfl) rfl (fun H locs hP hS => ?_)
      obtain rfl := Option.some.inj h
      exact hr _ _ _ _ dX8_edge_38 hP hS
    · replace h := if_yes hq h
      refine lv_iconst (v := Int32.ofInt (-1 : Int)) hx hb dX8_edge_22 (by decide) ?_
      obtain rfl := Option.some.inj h
      exact hr _ _ _ _ dX8_edge_23 hP hS
abbrev rm_X8_edge : Room := { frames := 6, cells := 0, slots := 0, locals := 157 }
theorem c_X8_edge {l : Launch} {D : va_G} {a : Nat → Nat} {g : Nat → ClassId} {S : SZ} {v1 : Int} {v2 : Int} {Z1 : SZ} {r1 : Int} (h : f_X8_edge S v1 v2 = some (Z1, r1)) : MetI l D (tysWX g) (WX a g) E0 yX8_edge cX8_edge 3 (some .int) rm_X8_edge [.ref (a 0), .int (Int32.ofInt v1), .int (Int32.ofInt v2)] (em S) (em Z1, Int32.ofInt r1) := mk_i (WX_same a g) (by decide) (em Z1, Int32.ofInt r1) (Nat.le_of_ble_eq_true rfl) (fun p e s m args below meth c A Q hc hE hr => t_X8_edge (z := (Z1, r1)) hc hr S v1 v2 h)
theorem k_X8_edge : CalV RX8 yX8_edge cX8_edge 3 (some .int) rm_X8_edge 2 := ⟨q_678, q_679, q_2, q_680, by decide +kernel, rfl, rfl⟩
set_option maxHeartbeats 4000000 in
set_option maxRecDepth 100000 in
theorem t_X8_stretch {z : SZ × Int} (hc : Cx p R s m args c D (tysWX g) A (WX a g) cX8_stretch 8 RX8 6 157) (hr : Rti p l e R s m args below meth c Q D A (WX a g) cX8_stretch (em z.1, Int32.ofInt z.2)) : ∀ (S : SZ) (v1 : Int) (v2 : Int) (v3 : Int), f_X8_stretch S v1 v2 v3 = some z → Go p l e R s m args below meth c Q D A (WX a g) 8 (em S) 0 [(0, .ref (a 0)), (1, .int (Int32.ofInt v1)), (2, .int (Int32.ofInt v2)), (3, .int (Int32.ofInt v3))] [] := by
  obtain ⟨⟨hx, hb, hml, hown, hts⟩, -, -, -, hnf, hno⟩ := id hc
  intro S v1 v2 v3 h H locs ls hP hS hl
  rw [f_X8_stretch] at h
  replace hl : lv_has ls 8 [(0, .ref (a 0)), (1, .int (Int32.ofInt v1)), (2, .int (Int32.ofInt v2)), (3, .int (Int32.ofInt v3))] := hl
  refine lv_aload_n hx hb dX8_stretch_0 rfl (lv_at hl 0 rfl) ?_
  refine lv_iconst (v := Int32.ofInt (1 : Int)) hx hb dX8_stretch_1 (by decide) ?_
  obtain ⟨S1, hk2, h⟩ := ob1_at h
  refine cl_Vv (As := [.int (Int32.ofInt (1 : Int))]) (rest := []) hc k_X8_settle q_332 (c_X8_settle hk2) hP hS (WX_0 a g (em S)) rfl rfl rfl hl (Nat.le_of_ble_eq_true rfl) dX8_stretch_2 (Nat.le_of_ble_eq_true rfl) (Nat.le_of_ble_eq_true rfl) rfl (fun H locs hP hS => ?_)
  refine lv_aload_n hx hb dX8_stretch_5 rfl (lv_at hl 0 rfl) ?_
  refine gfWX_HiddenEdges_edges hc hP q_23 dX8_stretch_6 ?_
  refine lv_iload_n hx hb dX8_stretch_9 rfl (lv_at hl 1 rfl) ?_
  obtain ⟨S3, x5, hk4, h⟩ := ob2_at h
  refine cl_Vi (As := [.int (Int32.ofInt v1)]) (rest := []) hc k_X1_has q_658 (c_X1_has hk4) hP hS (WX_3 a g (em S1)) rfl rfl rfl hl (Nat.le_of_ble_eq_true rfl) dX8_stretch_10 (Nat.le_of_ble_eq_true rfl) (Nat.le_of_ble_eq_true rfl) rfl (fun H locs hP hS => ?_)
  obtain ⟨h6, h⟩ := chk_at h
  refine z_if_eq (tgt := 27) hx hb h6 dX8_stretch_13 (by decide) (fun hq => ?_) (fun hq => ?_)
  · replace h := if_yes hq h
    refine lv_iconst (v := Int32.ofInt (-1 : Int)) hx hb dX8_stretch_27 (by decide) ?_
    obtain rfl := Option.some.inj h
    exact hr _ _ _ _ dX8_stretch_28 hP hS
  · replace h := if_no hq h
    refine lv_aload_n hx hb dX8_stretch_16 rfl (lv_at hl 0 rfl) ?_
    refine gfWX_HiddenEdges_mesh hc hP q_15 dX8_stretch_17 ?_
    refine lv_iload_n hx hb dX8_stretch_20 rfl (lv_at hl 2 rfl) ?_
    obtain ⟨S7, x9, hk8, h⟩ := ob2_at h
    refine cl_Vi (As := [.int (Int32.ofInt v2)]) (rest := []) hc k_X4_hasFace q_636 (c_X4_hasFace hk8) hP hS (WX_1 a g (em S3)) rfl rfl rfl hl (Nat.le_of_ble_eq_true rfl) dX8_stretch_21 (Nat.le_of_ble_eq_true rfl) (Nat.le_of_ble_eq_true rfl) rfl (fun H locs hP hS => ?_)
    obtain ⟨h10, h⟩ := chk_at h
    refine z_if_ne (tgt := 29) hx hb h10 dX8_stretch_24 (by decide) (fun hq => ?_) (fun hq => ?_)
    · replace h := if_no hq h
      refine lv_iload_n hx hb dX8_stretch_29 rfl (lv_at hl 3 rfl) ?_
      obtain ⟨h11, h⟩ := chk_at h
      refine z_if_lt (tgt := 38) hx hb h11 dX8_stretch_30 (by decide) (fun hq => ?_) (fun hq => ?_)
      · replace h := if_yes hq h
        refine lv_bipush (v := Int32.ofInt (-2 : Int)) hx hb dX8_stretch_38 (by decide) ?_
        obtain rfl := Option.some.inj h
        exact hr _ _ _ _ dX8_stretch_40 hP hS
      · replace h := if_no hq h
        refine lv_iload_n hx hb dX8_stretch_33 rfl (lv_at hl 3 rfl) ?_
        refine lv_iconst (v := Int32.ofInt (3 : Int)) hx hb dX8_stretch_34 (by decide) ?_
        refine z_icmp_le (tgt := 41) hx hb h11 (by decide) dX8_stretch_35 (by decide) (fun hq => ?_) (fun hq => ?_)
        · replace h := if_yes hq h
          refine lv_aload_n hx hb dX8_stretch_41 rfl (lv_at hl 0 rfl) ?_
          refine gfWX_HiddenEdges_sight hc hP q_19 dX8_stretch_42 ?_
          refine lv_aload_n hx hb dX8_stretch_45 rfl (lv_at hl 0 rfl) ?_
          refine gfWX_HiddenEdges_edges hc hP q_23 dX8_stretch_46 ?_
          refine gfWX_Edges_low hc hP q_653 dX8_stretch_49 ?_
          refine lv_iload_n hx hb dX8_stretch_52 rfl (lv_at hl 1 rfl) ?_
          obtain ⟨h12, h⟩ := chk_at h
          refine azWX_Edges_low hc hP h12 dX8_stretch_53 ?_
          refine lv_aload_n hx hb dX8_stretch_54 rfl (lv_at hl 0 rfl) ?_
          refine gfWX_HiddenEdges_edges hc hP q_23 dX8_stretch_55 ?_
          refine gfWX_Edges_high hc hP q_654 dX8_stretch_58 ?_
          refine lv_iload_n hx hb dX8_stretch_61 rfl (lv_at hl 1 rfl) ?_
          refine azWX_Edges_high hc hP h12 dX8_stretch_62 ?_
          refine lv_iload_n hx hb dX8_stretch_63 rfl (lv_at hl 2 rfl) ?_
          obtain ⟨S13, x15, hk14, h⟩ := ob2_at h
          refine cl_Vl (As := [.int (Int32.ofInt (za S7 13 (v1).toNat)), .int (Int32.ofInt (za S7 14 (v1).toNat)), .int (Int32.ofInt v2)]) (rest := []) hc k_X6_stretchBegin q_693 (c_X6_stretchBegin hk14) hP hS (WX_2 a g (em S7)) rfl rfl rfl hl (Nat.le_of_ble_eq_true rfl) dX8_stretch_64 (Nat.le_of_ble_eq_true rfl) (Nat.le_of_ble_eq_true rfl) rfl (fun H locs hP hS => ?_)
          refine lv_lstore (lv' := [(4, .long (Int64.ofInt x15)), (0, .ref (a 0)), (1, .int (Int32.ofInt v1)), (2, .int (Int32.ofInt v2)), (3, .int (Int32.ofInt v3))]) hx hb dX8_stretch_67 hl (by decide) rfl (fun ls hl => ?_)
          refine lv_aload_n hx hb dX8_stretch_69 rfl (lv_at hl 1 rfl) ?_
          refine gfWX_HiddenEdges_sight hc hP q_19 dX8_stretch_70 ?_
          refine lv_aload_n hx hb dX8_stretch_73 rfl (lv_at hl 1 rfl) ?_
          refine gfWX_HiddenEdges_edges hc hP q_23 dX8_stretch_74 ?_
          refine gfWX_Edges_low hc hP q_653 dX8_stretch_77 ?_
          refine lv_iload_n hx hb dX8_stretch_80 rfl (lv_at hl 2 rfl) ?_
          refine azWX_Edges_low hc hP h12 dX8_stretch_81 ?_
          refine lv_aload_n hx hb dX8_stretch_82 rfl (lv_at hl 1 rfl) ?_
          refine gfWX_HiddenEdges_edges hc hP q_23 dX8_stretch_83 ?_
          refine gfWX_Edges_high hc hP q_654 dX8_stretch_86 ?_
          refine lv_iload_n hx hb dX8_stretch_89 rfl (lv_at hl 2 rfl) ?_
          refine azWX_Edges_high hc hP h12 dX8_stretch_90 ?_
          refine lv_iload_n hx hb dX8_stretch_91 rfl (lv_at hl 3 rfl) ?_
          obtain ⟨S16, x18, hk17, h⟩ := ob2_at h
          refine cl_Vl (As := [.int (Int32.ofInt (za S13 13 (v1).toNat)), .int (Int32.ofInt (za S13 14 (v1).toNat)), .int (Int32.ofInt v2)]) (rest := []) hc k_X6_stretchEnd q_694 (c_X6_stretchEnd hk17) hP hS (WX_2 a g (em S13)) rfl rfl rfl hl (Nat.le_of_ble_eq_true rfl) dX8_stretch_92 (Nat.le_of_ble_eq_true rfl) (Nat.le_of_ble_eq_true rfl) rfl (fun H locs hP hS => ?_)
          refine lv_lstore (lv' := [(6, .long (Int64.ofInt x18)), (4, .long (Int64.ofInt x15)), (0, .ref (a 0)), (1, .int (Int32.ofInt v1)), (2, .int (Int32.ofInt v2)), (3, .int (Int32.ofInt v3))]) hx hb dX8_stretch_95 hl (by decide) rfl (fun ls hl => ?_)
          refine lv_lload hx hb dX8_stretch_97 (lv_at hl 1 rfl) ?_
          refine lv_lload hx hb dX8_stretch_99 (lv_at hl 0 rfl) ?_
          obtain ⟨S19, x21, hk20, h⟩ := ob2_at h
          refine cl_Si (As := [.long (Int64.ofInt x15), .long (Int64.ofInt x18)]) (rest := []) hc k_X2_less q_695 (c_X2_less hk20) hP hS rfl hl (Nat.le_of_ble_eq_true rfl) dX8_stretch_101 (Nat.le_of_ble_eq_true rfl) (Nat.le_of_ble_eq_true rfl) rfl (fun H locs hP hS => ?_)
          obtain ⟨h22, h⟩ := chk_at h
          refine z_if_ne (tgt := 110) hx hb h22 dX8_stretch_104 (by decide) (fun hq => ?_) (fun hq => ?_)
          · replace h := if_no hq h
            refine lv_iload_n hx hb dX8_stretch_110 rfl (lv_at hl 5 rfl) ?_
            refine lv_iconst (v := Int32.ofInt (2 : Int)) hx hb dX8_stretch_111 (by decide) ?_
            refine z_icmp_ge (tgt := 120) hx hb h11 (by decide) dX8_stretch_112 (by decide) (fun hq => ?_) (fun hq => ?_)
            · replace h := if_yes hq h
              refine lv_lload hx hb dX8_stretch_120 (lv_at hl 0 rfl) ?_
              refine lv_iload_n hx hb dX8_stretch_122 rfl (lv_at hl 5 rfl) ?_
              refine lv_iconst (v := Int32.ofInt (1 : Int)) hx hb dX8_stretch_123 (by decide) ?_
              refine z_iand hx hb dX8_stretch_124 ?_
              obtain ⟨S23, x25, hk24, h⟩ := ob2_at h
              refine cl_Si (As := [.long (Int64.ofInt x18), .int (Int32.ofInt (ziand v3 (1 : Int)))]) (rest := []) hc k_X2_part q_696 (c_X2_part hk24) hP hS rfl hl (Nat.le_of_ble_eq_true rfl) dX8_stretch_125 (Nat.le_of_ble_eq_true rfl) (Nat.le_of_ble_eq_true rfl) rfl (fun H locs hP hS => ?_)
              obtain rfl := Option.some.inj h
              exact hr _ _ _ _ dX8_stretch_128 hP hS
            · replace h := if_no hq h
              refine lv_lload hx hb dX8_stretch_115 (lv_at hl 1 rfl) ?_
              refine lv_goto (tgt := 122) hx hb dX8_stretch_117 (by decide) ?_
              refine lv_iload_n hx hb dX8_stretch_122 rfl (lv_at hl 5 rfl) ?_
              refine lv_iconst (v := Int32.ofInt (1 : Int)) hx hb dX8_stretch_123 (by decide) ?_
              refine z_iand hx hb dX8_stretch_124 ?_
              obtain ⟨S26, x28, hk27, h⟩ := ob2_at h
              refine cl_Si (As := [.long (Int64.ofInt x15), .int (Int32.ofInt (ziand v3 (1 : Int)))]) (rest := []) hc k_X2_part q_696 (c_X2_part hk27) hP hS rfl hl (Nat.le_of_ble_eq_true rfl) dX8_stretch_125 (Nat.le_of_ble_eq_true rfl) (Nat.le_of_ble_eq_true rfl) rfl (fun H locs hP hS => ?_)
              obtain rfl := Option.some.inj h
              exact hr _ _ _ _ dX8_stretch_128 hP hS
          · replace h := if_yes hq h
            refine lv_bipush (v := Int32.ofInt (-9 : Int)) hx hb dX8_stretch_107 (by decide) ?_
            obtain rfl := Option.some.inj h
            exact hr _ _ _ _ dX8_stretch_109 hP hS
        · replace h := if_no hq h
          refine lv_bipush (v := Int32.ofInt (-2 : Int)) hx hb dX8_stretch_38 (by decide) ?_
          obtain rfl := Option.some.inj h
          exact hr _ _ _ _ dX8_stretch_40 hP hS
    · replace h := if_yes hq h
      refine lv_iconst (v := Int32.ofInt (-1 : Int)) hx hb dX8_stretch_27 (by decide) ?_
      obtain rfl := Option.some.inj h
      exact hr _ _ _ _ dX8_stretch_28 hP hS
abbrev rm_X8_stretch : Room := { frames := 6, cells := 0, slots := 0, locals := 157 }
theorem c_X8_stretch {l : Launch} {D : va_G} {a : Nat → Nat} {g : Nat → ClassId} {S : SZ} {v1 : Int} {v2 : Int} {v3 : Int} {Z1 : SZ} {r1 : Int} (h : f_X8_stretch S v1 v2 v3 = some (Z1, r1)) : MetI l D (tysWX g) (WX a g) E0 yX8_stretch cX8_stretch 8 (some .int) rm_X8_stretch [.ref (a 0), .int (Int32.ofInt v1), .int (Int32.ofInt v2), .int (Int32.ofInt v3)] (em S) (em Z1, Int32.ofInt r1) := mk_i (WX_same a g) (by decide) (em Z1, Int32.ofInt r1) (Nat.le_of_ble_eq_true rfl) (fun p e s m args below meth c A Q hc hE hr => t_X8_stretch (z := (Z1, r1)) hc hr S v1 v2 v3 h)
theorem k_X8_stretch : CalV RX8 yX8_stretch cX8_stretch 8 (some .int) rm_X8_stretch 3 := ⟨q_690, q_691, q_2, q_692, by decide +kernel, rfl, rfl⟩
set_option maxHeartbeats 4000000 in
set_option maxRecDepth 100000 in
theorem t_X8_hidden {z : SZ × Int} (hc : Cx p R s m args c D (tysWX g) A (WX a g) cX8_hidden 4 RX8 6 157) (hr : Rti p l e R s m args below meth c Q D A (WX a g) cX8_hidden (em z.1, Int32.ofInt z.2)) : ∀ (S : SZ) (v1 : Int) (v2 : Int) (v3 : Int), f_X8_hidden S v1 v2 v3 = some z → Go p l e R s m args below meth c Q D A (WX a g) 4 (em S) 0 [(0, .ref (a 0)), (1, .int (Int32.ofInt v1)), (2, .int (Int32.ofInt v2)), (3, .int (Int32.ofInt v3))] [] := by
  obtain ⟨⟨hx, hb, hml, hown, hts⟩, -, -, -, hnf, hno⟩ := id hc
  intro S v1 v2 v3 h H locs ls hP hS hl
  rw [f_X8_hidden] at h
  replace hl : lv_has ls 4 [(0, .ref (a 0)), (1, .int (Int32.ofInt v1)), (2, .int (Int32.ofInt v2)), (3, .int (Int32.ofInt v3))] := hl
  refine lv_aload_n hx hb dX8_hidden_0 rfl (lv_at hl 0 rfl) ?_
  refine lv_iconst (v := Int32.ofInt (1 : Int)) hx hb dX8_hidden_1 (by decide) ?_
  obtain ⟨S1, hk2, h⟩ := ob1_at h
  refine cl_Vv (As := [.int (Int32.ofInt (1 : Int))]) (rest := []) hc k_X8_settle q_332 (c_X8_settle hk2) hP hS (WX_0 a g (em S)) rfl rfl rfl hl (Nat.le_of_ble_eq_true rfl) dX8_hidden_2 (Nat.le_of_ble_eq_true rfl) (Nat.le_of_ble_eq_true rfl) rfl (fun H locs hP hS => ?_)
  refine lv_aload_n hx hb dX8_hidden_5 rfl (lv_at hl 0 rfl) ?_
  refine gfWX_HiddenEdges_edges hc hP q_23 dX8_hidden_6 ?_
  refine lv_iload_n hx hb dX8_hidden_9 rfl (lv_at hl 1 rfl) ?_
  obtain ⟨S3, x5, hk4, h⟩ := ob2_at h
  refine cl_Vi (As := [.int (Int32.ofInt v1)]) (rest := []) hc k_X1_has q_658 (c_X1_has hk4) hP hS (WX_3 a g (em S1)) rfl rfl rfl hl (Nat.le_of_ble_eq_true rfl) dX8_hidden_10 (Nat.le_of_ble_eq_true rfl) (Nat.le_of_ble_eq_true rfl) rfl (fun H locs hP hS => ?_)
  obtain ⟨h6, h⟩ := chk_at h
  refine z_if_ne (tgt := 18) hx hb h6 dX8_hidden_13 (by decide) (fun hq => ?_) (fun hq => ?_)
  · replace h := if_no hq h
    refine lv_iload_n hx hb dX8_hidden_18 rfl (lv_at hl 3 rfl) ?_
    refine lv_iconst (v := Int32.ofInt (1 : Int)) hx hb dX8_hidden_19 (by decide) ?_
    obtain ⟨h7, h⟩ := chk_at h
    refine z_icmp_lt (tgt := 39) hx hb h7 (by decide) dX8_hidden_20 (by decide) (fun hq => ?_) (fun hq => ?_)
    · replace h := if_yes hq h
      refine lv_bipush (v := Int32.ofInt (-2 : Int)) hx hb dX8_hidden_39 (by decide) ?_
      obtain rfl := Option.some.inj h
      exact hr _ _ _ _ dX8_hidden_41 hP hS
    · replace h := if_no hq h
      refine lv_iload_n hx hb dX8_hidden_23 rfl (lv_at hl 3 rfl) ?_
      refine lv_sipush (v := Int32.ofInt (1000 : Int)) hx hb dX8_hidden_24 (by decide) ?_
      refine z_icmp_gt (tgt := 39) hx hb h7 (by decide) dX8_hidden_27 (by decide) (fun hq => ?_) (fun hq => ?_)
      · replace h := if_yes hq h
        refine lv_bipush (v := Int32.ofInt (-2 : Int)) hx hb dX8_hidden_39 (by decide) ?_
        obtain rfl := Option.some.inj h
        exact hr _ _ _ _ dX8_hidden_41 hP hS
      · replace h := if_no hq h
        refine lv_iload_n hx hb dX8_hidden_30 rfl (lv_at hl 2 rfl) ?_
        obtain ⟨h8, h⟩ := chk_at h
        refine z_if_lt (tgt := 39) hx hb h8 dX8_hidden_31 (by decide) (fun hq => ?_) (fun hq => ?_)
        · replace h := if_yes hq h
          refine lv_bipush (v := Int32.ofInt (-2 : Int)) hx hb dX8_hidden_39 (by decide) ?_
          obtain rfl := Option.some.inj h
          exact hr _ _ _ _ dX8_hidden_41 hP hS
        · replace h := if_no hq h
          refine lv_iload_n hx hb dX8_hidden_34 rfl (lv_at hl 2 rfl) ?_
          refine lv_iload_n hx hb dX8_hidden_35 rfl (lv_at hl 3 rfl) ?_
          refine z_icmp_le (tgt := 42) hx hb h8 h7 dX8_hidden_36 (by decide) (fun hq => ?_) (fun hq => ?_)
          · replace h := if_yes hq h
            refine lv_aload_n hx hb dX8_hidden_42 rfl (lv_at hl 0 rfl) ?_
            refine gfWX_HiddenEdges_sight hc hP q_19 dX8_hidden_43 ?_
            refine lv_aload_n hx hb dX8_hidden_46 rfl (lv_at hl 0 rfl) ?_
            refine gfWX_HiddenEdges_edges hc hP q_23 dX8_hidden_47 ?_
            refine gfWX_Edges_low hc hP q_653 dX8_hidden_50 ?_
            refine lv_iload_n hx hb dX8_hidden_53 rfl (lv_at hl 1 rfl) ?_
            obtain ⟨h9, h⟩ := chk_at h
            refine azWX_Edges_low hc hP h9 dX8_hidden_54 ?_
            refine lv_aload_n hx hb dX8_hidden_55 rfl (lv_at hl 0 rfl) ?_
            refine gfWX_HiddenEdges_edges hc hP q_23 dX8_hidden_56 ?_
            refine gfWX_Edges_high hc hP q_654 dX8_hidden_59 ?_
            refine lv_iload_n hx hb dX8_hidden_62 rfl (lv_at hl 1 rfl) ?_
            refine azWX_Edges_high hc hP h9 dX8_hidden_63 ?_
            refine lv_iload_n hx hb dX8_hidden_64 rfl (lv_at hl 2 rfl) ?_
            refine lv_iload_n hx hb dX8_hidden_65 rfl (lv_at hl 3 rfl) ?_
            obtain ⟨S10, x12, hk11, h⟩ := ob2_at h
            refine cl_Vi (As := [.int (Int32.ofInt (za S3 13 (v1).toNat)), .int (Int32.ofInt (za S3 14 (v1).toNat)), .int (Int32.ofInt v2), .int (Int32.ofInt v3)]) (rest := []) hc k_X6_countHiding q_527 (c_X6_countHiding hk11) hP hS (WX_2 a g (em S3)) rfl rfl rfl hl (Nat.le_of_ble_eq_true rfl) dX8_hidden_66 (Nat.le_of_ble_eq_true rfl) (Nat.le_of_ble_eq_true rfl) rfl (fun H locs hP hS => ?_)
            obtain rfl := Option.some.inj h
            exact hr _ _ _ _ dX8_hidden_69 hP hS
          · replace h := if_no hq h
            refine lv_bipush (v := Int32.ofInt (-2 : Int)) hx hb dX8_hidden_39 (by decide) ?_
            obtain rfl := Option.some.inj h
            exact hr _ _ _ _ dX8_hidden_41 hP hS
  · replace h := if_yes hq h
    refine lv_iconst (v := Int32.ofInt (-1 : Int)) hx hb dX8_hidden_16 (by decide) ?_
    obtain rfl := Option.some.inj h
    exact hr _ _ _ _ dX8_hidden_17 hP hS
abbrev rm_X8_hidden : Room := { frames := 6, cells := 0, slots := 0, locals := 157 }
theorem c_X8_hidden {l : Launch} {D : va_G} {a : Nat → Nat} {g : Nat → ClassId} {S : SZ} {v1 : Int} {v2 : Int} {v3 : Int} {Z1 : SZ} {r1 : Int} (h : f_X8_hidden S v1 v2 v3 = some (Z1, r1)) : MetI l D (tysWX g) (WX a g) E0 yX8_hidden cX8_hidden 4 (some .int) rm_X8_hidden [.ref (a 0), .int (Int32.ofInt v1), .int (Int32.ofInt v2), .int (Int32.ofInt v3)] (em S) (em Z1, Int32.ofInt r1) := mk_i (WX_same a g) (by decide) (em Z1, Int32.ofInt r1) (Nat.le_of_ble_eq_true rfl) (fun p e s m args below meth c A Q hc hE hr => t_X8_hidden (z := (Z1, r1)) hc hr S v1 v2 v3 h)
theorem k_X8_hidden : CalV RX8 yX8_hidden cX8_hidden 4 (some .int) rm_X8_hidden 3 := ⟨q_707, q_708, q_2, q_709, by decide +kernel, rfl, rfl⟩
set_option maxHeartbeats 4000000 in
set_option maxRecDepth 100000 in
theorem t_X8_piece {z : SZ × Int} (hc : Cx p R s m args c D (tysWX g) A (WX a g) cX8_piece 4 RX8 6 157) (hr : Rti p l e R s m args below meth c Q D A (WX a g) cX8_piece (em z.1, Int32.ofInt z.2)) : ∀ (S : SZ) (v1 : Int) (v2 : Int) (v3 : Int), f_X8_piece S v1 v2 v3 = some z → Go p l e R s m args below meth c Q D A (WX a g) 4 (em S) 0 [(0, .ref (a 0)), (1, .int (Int32.ofInt v1)), (2, .int (Int32.ofInt v2)), (3, .int (Int32.ofInt v3))] [] := by
  obtain ⟨⟨hx, hb, hml, hown, hts⟩, -, -, -, hnf, hno⟩ := id hc
  intro S v1 v2 v3 h H locs ls hP hS hl
  rw [f_X8_piece] at h
  replace hl : lv_has ls 4 [(0, .ref (a 0)), (1, .int (Int32.ofInt v1)), (2, .int (Int32.ofInt v2)), (3, .int (Int32.ofInt v3))] := hl
  refine lv_aload_n hx hb dX8_piece_0 rfl (lv_at hl 0 rfl) ?_
  refine lv_iconst (v := Int32.ofInt (1 : Int)) hx hb dX8_piece_1 (by decide) ?_
  obtain ⟨S1, hk2, h⟩ := ob1_at h
  refine cl_Vv (As := [.int (Int32.ofInt (1 : Int))]) (rest := []) hc k_X8_settle q_332 (c_X8_settle hk2) hP hS (WX_0 a g (em S)) rfl rfl rfl hl (Nat.le_of_ble_eq_true rfl) dX8_piece_2 (Nat.le_of_ble_eq_true rfl) (Nat.le_of_ble_eq_true rfl) rfl (fun H locs hP hS => ?_)
  refine lv_aload_n hx hb dX8_piece_5 rfl (lv_at hl 0 rfl) ?_
  refine gfWX_HiddenEdges_edges hc hP q_23 dX8_piece_6 ?_
  refine lv_iload_n hx hb dX8_piece_9 rfl (lv_at hl 1 rfl) ?_
  obtain ⟨S3, x5, hk4, h⟩ := ob2_at h
  refine cl_Vi (As := [.int (Int32.ofInt v1)]) (rest := []) hc k_X1_has q_658 (c_X1_has hk4) hP hS (WX_3 a g (em S1)) rfl rfl rfl hl (Nat.le_of_ble_eq_true rfl) dX8_piece_10 (Nat.le_of_ble_eq_true rfl) (Nat.le_of_ble_eq_true rfl) rfl (fun H locs hP hS => ?_)
  obtain ⟨h6, h⟩ := chk_at h
  refine z_if_ne (tgt := 18) hx hb h6 dX8_piece_13 (by decide) (fun hq => ?_) (fun hq => ?_)
  · replace h := if_no hq h
    refine lv_aload_n hx hb dX8_piece_18 rfl (lv_at hl 0 rfl) ?_
    refine gfWX_HiddenEdges_cuts hc hP q_27 dX8_piece_19 ?_
    refine lv_iload_n hx hb dX8_piece_22 rfl (lv_at hl 1 rfl) ?_
    refine lv_aload_n hx hb dX8_piece_23 rfl (lv_at hl 0 rfl) ?_
    refine gfWX_HiddenEdges_edges hc hP q_23 dX8_piece_24 ?_
    refine lv_aload_n hx hb dX8_piece_27 rfl (lv_at hl 0 rfl) ?_
    refine gfWX_HiddenEdges_sight hc hP q_19 dX8_piece_28 ?_
    obtain ⟨S7, hk8, h⟩ := ob1_at h
    refine cl_Vv (As := [.int (Int32.ofInt v1), .ref (a 3), .ref (a 2)]) (rest := []) hc k_X0_load q_662 (c_X0_load hk8) hP hS (WX_4 a g (em S3)) rfl rfl rfl hl (Nat.le_of_ble_eq_true rfl) dX8_piece_31 (Nat.le_of_ble_eq_true rfl) (Nat.le_of_ble_eq_true rfl) rfl (fun H locs hP hS => ?_)
    refine lv_iload_n hx hb dX8_piece_34 rfl (lv_at hl 2 rfl) ?_
    obtain ⟨h9, h⟩ := chk_at h
    refine z_if_lt (tgt := 49) hx hb h9 dX8_piece_35 (by decide) (fun hq => ?_) (fun hq => ?_)
    · replace h := if_yes hq h
      refine lv_iconst (v := Int32.ofInt (-1 : Int)) hx hb dX8_piece_49 (by decide) ?_
      obtain rfl := Option.some.inj h
      exact hr _ _ _ _ dX8_piece_50 hP hS
    · replace h := if_no hq h
      refine lv_iload_n hx hb dX8_piece_38 rfl (lv_at hl 2 rfl) ?_
      refine lv_aload_n hx hb dX8_piece_39 rfl (lv_at hl 0 rfl) ?_
      refine gfWX_HiddenEdges_cuts hc hP q_27 dX8_piece_40 ?_
      obtain ⟨S10, x12, hk11, h⟩ := ob2_at h
      refine cl_Vi (As := []) (rest := [.int (Int32.ofInt v2)]) hc k_X0_pieceCount q_663 (c_X0_pieceCount hk11) hP hS (WX_4 a g (em S7)) rfl rfl rfl hl (Nat.le_of_ble_eq_true rfl) dX8_piece_43 (Nat.le_of_ble_eq_true rfl) (Nat.le_of_ble_eq_true rfl) rfl (fun H locs hP hS => ?_)
      obtain ⟨h13, h⟩ := chk_at h
      refine z_icmp_lt (tgt := 51) hx hb h9 h13 dX8_piece_46 (by decide) (fun hq => ?_) (fun hq => ?_)
      · replace h := if_yes hq h
        refine lv_iload_n hx hb dX8_piece_51 rfl (lv_at hl 3 rfl) ?_
        obtain ⟨h14, h⟩ := chk_at h
        by_cases hsw : v3 < 0 ∨ 4 < v3
        · replace h := if_yes hsw h
          refine lv_tableOut (tgt := 130) hx hb dX8_piece_52 (by rw [o32 h14]; exact hsw) (by decide) ?_
          refine lv_bipush (v := Int32.ofInt (-2 : Int)) hx hb dX8_piece_130 (by decide) ?_
          obtain rfl := Option.some.inj h
          exact hr _ _ _ _ dX8_piece_132 hP hS
        replace h := if_no hsw h
        by_cases hs0 : v3 = 0
        · replace h := if_yes hs0 h
          refine lv_tableIn (off := 36) (tgt := 88) hx hb dX8_piece_52 (by rw [o32 h14]; exact fun h9 => hsw (Or.inl h9)) (by rw [o32 h14]; exact fun h9 => hsw (Or.inr h9)) (by rw [o32 h14, hs0]; rfl) (by decide) ?_
          refine lv_aload_n hx hb dX8_piece_88 rfl (lv_at hl 0 rfl) ?_
          refine gfWX_HiddenEdges_cuts hc hP q_27 dX8_piece_89 ?_
          refine gfWX_Cuts_at hc hP q_722 dX8_piece_92 ?_
          refine lv_iload_n hx hb dX8_piece_95 rfl (lv_at hl 2 rfl) ?_
          obtain ⟨h15, h⟩ := chk_at h
          refine azWX_Cuts_at hc hP h15 dX8_piece_96 ?_
          refine lv_iload_n hx hb dX8_piece_97 rfl (lv_at hl 3 rfl) ?_
          obtain ⟨S16, x18, hk17, h⟩ := ob2_at h
          refine cl_Si (As := [.long (Int64.ofInt (zb S10 2 (v2).toNat)), .int (Int32.ofInt v3)]) (rest := []) hc k_X2_part q_696 (c_X2_part hk17) hP hS rfl hl (Nat.le_of_ble_eq_true rfl) dX8_piece_98 (Nat.le_of_ble_eq_true rfl) (Nat.le_of_ble_eq_true rfl) rfl (fun H locs hP hS => ?_)
          obtain rfl := Option.some.inj h
          exact hr _ _ _ _ dX8_piece_101 hP hS
        replace h := if_no hs0 h
        by_cases hs1 : v3 = 1
        · replace h := if_yes hs1 h
          refine lv_tableIn (off := 36) (tgt := 88) hx hb dX8_piece_52 (by rw [o32 h14]; exact fun h9 => hsw (Or.inl h9)) (by rw [o32 h14]; exact fun h9 => hsw (Or.inr h9)) (by rw [o32 h14, hs1]; rfl) (by decide) ?_
          refine lv_aload_n hx hb dX8_piece_88 rfl (lv_at hl 0 rfl) ?_
          refine gfWX_HiddenEdges_cuts hc hP q_27 dX8_piece_89 ?_
          refine gfWX_Cuts_at hc hP q_722 dX8_piece_92 ?_
          refine lv_iload_n hx hb dX8_piece_95 rfl (lv_at hl 2 rfl) ?_
          obtain ⟨h19, h⟩ := chk_at h
          refine azWX_Cuts_at hc hP h19 dX8_piece_96 ?_
          refine lv_iload_n hx hb dX8_piece_97 rfl (lv_at hl 3 rfl) ?_
          obtain ⟨S20, x22, hk21, h⟩ := ob2_at h
          refine cl_Si (As := [.long (Int64.ofInt (zb S10 2 (v2).toNat)), .int (Int32.ofInt v3)]) (rest := []) hc k_X2_part q_696 (c_X2_part hk21) hP hS rfl hl (Nat.le_of_ble_eq_true rfl) dX8_piece_98 (Nat.le_of_ble_eq_true rfl) (Nat.le_of_ble_eq_true rfl) rfl (fun H locs hP hS => ?_)
          obtain rfl := Option.some.inj h
          exact hr _ _ _ _ dX8_piece_101 hP hS
        replace h := if_no hs1 h
        by_cases hs2 : v3 = 2
        · replace h := if_yes hs2 h
          refine lv_tableIn (off := 50) (tgt := 102) hx hb dX8_piece_52 (by rw [o32 h14]; exact fun h9 => hsw (Or.inl h9)) (by rw [o32 h14]; exact fun h9 => hsw (Or.inr h9)) (by rw [o32 h14, hs2]; rfl) (by decide) ?_
          refine lv_aload_n hx hb dX8_piece_102 rfl (lv_at hl 0 rfl) ?_
          refine gfWX_HiddenEdges_cuts hc hP q_27 dX8_piece_103 ?_
          refine gfWX_Cuts_at hc hP q_722 dX8_piece_106 ?_
          refine lv_iload_n hx hb dX8_piece_109 rfl (lv_at hl 2 rfl) ?_
          refine lv_iconst (v := Int32.ofInt (1 : Int)) hx hb dX8_piece_110 (by decide) ?_
          refine z_iadd hx hb dX8_piece_111 ?_
          obtain ⟨h23, h⟩ := chk_at h
          refine azWX_Cuts_at hc hP h23 dX8_piece_112 ?_
          refine lv_iload_n hx hb dX8_piece_113 rfl (lv_at hl 3 rfl) ?_
          refine lv_iconst (v := Int32.ofInt (2 : Int)) hx hb dX8_piece_114 (by decide) ?_
          refine z_isub hx hb dX8_piece_115 ?_
          obtain ⟨S24, x26, hk25, h⟩ := ob2_at h
          refine cl_Si (As := [.long (Int64.ofInt (zb S10 2 ((v2 + (1 : Int))).toNat)), .int (Int32.ofInt (v3 - (2 : Int)))]) (rest := []) hc k_X2_part q_696 (c_X2_part hk25) hP hS rfl hl (Nat.le_of_ble_eq_true rfl) dX8_piece_116 (Nat.le_of_ble_eq_true rfl) (Nat.le_of_ble_eq_true rfl) rfl (fun H locs hP hS => ?_)
          obtain rfl := Option.some.inj h
          exact hr _ _ _ _ dX8_piece_119 hP hS
        replace h := if_no hs2 h
        by_cases hs3 : v3 = 3
        · replace h := if_yes hs3 h
          refine lv_tableIn (off := 50) (tgt := 102) hx hb dX8_piece_52 (by rw [o32 h14]; exact fun h9 => hsw (Or.inl h9)) (by rw [o32 h14]; exact fun h9 => hsw (Or.inr h9)) (by rw [o32 h14, hs3]; rfl) (by decide) ?_
          refine lv_aload_n hx hb dX8_piece_102 rfl (lv_at hl 0 rfl) ?_
          refine gfWX_HiddenEdges_cuts hc hP q_27 dX8_piece_103 ?_
          refine gfWX_Cuts_at hc hP q_722 dX8_piece_106 ?_
          refine lv_iload_n hx hb dX8_piece_109 rfl (lv_at hl 2 rfl) ?_
          refine lv_iconst (v := Int32.ofInt (1 : Int)) hx hb dX8_piece_110 (by decide) ?_
          refine z_iadd hx hb dX8_piece_111 ?_
          obtain ⟨h27, h⟩ := chk_at h
          refine azWX_Cuts_at hc hP h27 dX8_piece_112 ?_
          refine lv_iload_n hx hb dX8_piece_113 rfl (lv_at hl 3 rfl) ?_
          refine lv_iconst (v := Int32.ofInt (2 : Int)) hx hb dX8_piece_114 (by decide) ?_
          refine z_isub hx hb dX8_piece_115 ?_
          obtain ⟨S28, x30, hk29, h⟩ := ob2_at h
          refine cl_Si (As := [.long (Int64.ofInt (zb S10 2 ((v2 + (1 : Int))).toNat)), .int (Int32.ofInt (v3 - (2 : Int)))]) (rest := []) hc k_X2_part q_696 (c_X2_part hk29) hP hS rfl hl (Nat.le_of_ble_eq_true rfl) dX8_piece_116 (Nat.le_of_ble_eq_true rfl) (Nat.le_of_ble_eq_true rfl) rfl (fun H locs hP hS => ?_)
          obtain rfl := Option.some.inj h
          exact hr _ _ _ _ dX8_piece_119 hP hS
        replace h := if_no hs3 h
        by_cases hs4 : v3 = 4
        · replace h := if_yes hs4 h
          refine lv_tableIn (off := 68) (tgt := 120) hx hb dX8_piece_52 (by rw [o32 h14]; exact fun h9 => hsw (Or.inl h9)) (by rw [o32 h14]; exact fun h9 => hsw (Or.inr h9)) (by rw [o32 h14, hs4]; rfl) (by decide) ?_
          refine lv_aload_n hx hb dX8_piece_120 rfl (lv_at hl 0 rfl) ?_
          refine gfWX_HiddenEdges_cuts hc hP q_27 dX8_piece_121 ?_
          refine gfWX_Cuts_quantity hc hP q_723 dX8_piece_124 ?_
          refine lv_iload_n hx hb dX8_piece_127 rfl (lv_at hl 2 rfl) ?_
          obtain ⟨h31, h⟩ := chk_at h
          refine azWX_Cuts_quantity hc hP h31 dX8_piece_128 ?_
          obtain rfl := Option.some.inj h
          exact hr _ _ _ _ dX8_piece_129 hP hS
        replace h := if_no hs4 h
        cases h
      · replace h := if_no hq h
        refine lv_iconst (v := Int32.ofInt (-1 : Int)) hx hb dX8_piece_49 (by decide) ?_
        obtain rfl := Option.some.inj h
        exact hr _ _ _ _ dX8_piece_50 hP hS
  · replace h := if_yes hq h
    refine lv_iconst (v := Int32.ofInt (-1 : Int)) hx hb dX8_piece_16 (by decide) ?_
    obtain rfl := Option.some.inj h
    exact hr _ _ _ _ dX8_piece_17 hP hS
abbrev rm_X8_piece : Room := { frames := 6, cells := 0, slots := 0, locals := 157 }
theorem c_X8_piece {l : Launch} {D : va_G} {a : Nat → Nat} {g : Nat → ClassId} {S : SZ} {v1 : Int} {v2 : Int} {v3 : Int} {Z1 : SZ} {r1 : Int} (h : f_X8_piece S v1 v2 v3 = some (Z1, r1)) : MetI l D (tysWX g) (WX a g) E0 yX8_piece cX8_piece 4 (some .int) rm_X8_piece [.ref (a 0), .int (Int32.ofInt v1), .int (Int32.ofInt v2), .int (Int32.ofInt v3)] (em S) (em Z1, Int32.ofInt r1) := mk_i (WX_same a g) (by decide) (em Z1, Int32.ofInt r1) (Nat.le_of_ble_eq_true rfl) (fun p e s m args below meth c A Q hc hE hr => t_X8_piece (z := (Z1, r1)) hc hr S v1 v2 v3 h)
theorem k_X8_piece : CalV RX8 yX8_piece cX8_piece 4 (some .int) rm_X8_piece 3 := ⟨q_719, q_720, q_2, q_721, by decide +kernel, rfl, rfl⟩
set_option maxHeartbeats 4000000 in
set_option maxRecDepth 100000 in
theorem t_X8_crossing_p130 {z : SZ × Int} (hc : Cx p R s m args c D (tysWX g) A (WX a g) cX8_crossing 5 RX8 6 157) (hr : Rti p l e R s m args below meth c Q D A (WX a g) cX8_crossing (em z.1, Int32.ofInt z.2)) : ∀ (S : SZ) (v3 : Int) (s0 : Int), f_X8_crossing_p130 S v3 s0 = some z → Go p l e R s m args below meth c Q D A (WX a g) 5 (em S) 130 [(0, .ref (a 0)), (3, .int (Int32.ofInt v3))] [.int (Int32.ofInt s0)] := by
  obtain ⟨⟨hx, hb, hml, hown, hts⟩, -, -, -, hnf, hno⟩ := id hc
  intro S v3 s0 h H locs ls hP hS hl
  rw [f_X8_crossing_p130] at h
  refine lv_istore (lv' := [(4, .int (Int32.ofInt s0)), (0, .ref (a 0)), (3, .int (Int32.ofInt v3))]) hx hb dX8_crossing_130 hl (by decide) rfl (fun ls hl => ?_)
  refine lv_iload hx hb dX8_crossing_132 (lv_at hl 0 rfl) ?_
  refine lv_aload_n hx hb dX8_crossing_134 rfl (lv_at hl 1 rfl) ?_
  refine gfWX_HiddenEdges_meeting hc hP q_39 dX8_crossing_135 ?_
  refine gzWX_Meeting_down hc hP q_735 dX8_crossing_138 ?_
  obtain ⟨S1, x3, hk2, h⟩ := ob2_at h
  refine cl_Sl (As := [.int (Int32.ofInt s0), .int (Int32.ofInt (zi S 20))]) (rest := []) hc k_X2_of q_752 (c_X2_of hk2) hP hS rfl hl (Nat.le_of_ble_eq_true rfl) dX8_crossing_141 (Nat.le_of_ble_eq_true rfl) (Nat.le_of_ble_eq_true rfl) rfl (fun H locs hP hS => ?_)
  obtain ⟨S4, x6, hk5, h⟩ := ob2_at h
  refine cl_Sl (As := [.long (Int64.ofInt x3)]) (rest := []) hc k_X2_lowest q_753 (c_X2_lowest hk5) hP hS rfl hl (Nat.le_of_ble_eq_true rfl) dX8_crossing_144 (Nat.le_of_ble_eq_true rfl) (Nat.le_of_ble_eq_true rfl) rfl (fun H locs hP hS => ?_)
  refine lv_iload_n hx hb dX8_crossing_147 rfl (lv_at hl 2 rfl) ?_
  refine lv_iconst (v := Int32.ofInt (1 : Int)) hx hb dX8_crossing_148 (by decide) ?_
  refine z_iand hx hb dX8_crossing_149 ?_
  obtain ⟨S7, x9, hk8, h⟩ := ob2_at h
  refine cl_Si (As := [.long (Int64.ofInt x6), .int (Int32.ofInt (ziand v3 (1 : Int)))]) (rest := []) hc k_X2_part q_696 (c_X2_part hk8) hP hS rfl hl (Nat.le_of_ble_eq_true rfl) dX8_crossing_150 (Nat.le_of_ble_eq_true rfl) (Nat.le_of_ble_eq_true rfl) rfl (fun H locs hP hS => ?_)
  obtain rfl := Option.some.inj h
  exact hr _ _ _ _ dX8_crossing_153 hP hS
set_option maxHeartbeats 4000000 in
set_option maxRecDepth 100000 in
theorem t_X8_crossing {z : SZ × Int} (hc : Cx p R s m args c D (tysWX g) A (WX a g) cX8_crossing 5 RX8 6 157) (hr : Rti p l e R s m args below meth c Q D A (WX a g) cX8_crossing (em z.1, Int32.ofInt z.2)) : ∀ (S : SZ) (v1 : Int) (v2 : Int) (v3 : Int), f_X8_crossing S v1 v2 v3 = some z → Go p l e R s m args below meth c Q D A (WX a g) 5 (em S) 0 [(0, .ref (a 0)), (1, .int (Int32.ofInt v1)), (2, .int (Int32.ofInt v2)), (3, .int (Int32.ofInt v3))] [] := by
  obtain ⟨⟨hx, hb, hml, hown, hts⟩, -, -, -, hnf, hno⟩ := id hc
  intro S v1 v2 v3 h H locs ls hP hS hl
  rw [f_X8_crossing] at h
  replace hl : lv_has ls 5 [(0, .ref (a 0)), (1, .int (Int32.ofInt v1)), (2, .int (Int32.ofInt v2)), (3, .int (Int32.ofInt v3))] := hl
  refine lv_aload_n hx hb dX8_crossing_0 rfl (lv_at hl 0 rfl) ?_
  refine lv_iconst (v := Int32.ofInt (1 : Int)) hx hb dX8_crossing_1 (by decide) ?_
  obtain ⟨S1, hk2, h⟩ := ob1_at h
  refine cl_Vv (As := [.int (Int32.ofInt (1 : Int))]) (rest := []) hc k_X8_settle q_332 (c_X8_settle hk2) hP hS (WX_0 a g (em S)) rfl rfl rfl hl (Nat.le_of_ble_eq_true rfl) dX8_crossing_2 (Nat.le_of_ble_eq_true rfl) (Nat.le_of_ble_eq_true rfl) rfl (fun H locs hP hS => ?_)
  refine lv_aload_n hx hb dX8_crossing_5 rfl (lv_at hl 0 rfl) ?_
  refine gfWX_HiddenEdges_edges hc hP q_23 dX8_crossing_6 ?_
  refine lv_iload_n hx hb dX8_crossing_9 rfl (lv_at hl 1 rfl) ?_
  obtain ⟨S3, x5, hk4, h⟩ := ob2_at h
  refine cl_Vi (As := [.int (Int32.ofInt v1)]) (rest := []) hc k_X1_has q_658 (c_X1_has hk4) hP hS (WX_3 a g (em S1)) rfl rfl rfl hl (Nat.le_of_ble_eq_true rfl) dX8_crossing_10 (Nat.le_of_ble_eq_true rfl) (Nat.le_of_ble_eq_true rfl) rfl (fun H locs hP hS => ?_)
  obtain ⟨h6, h⟩ := chk_at h
  refine z_if_eq (tgt := 27) hx hb h6 dX8_crossing_13 (by decide) (fun hq => ?_) (fun hq => ?_)
  · replace h := if_yes hq h
    refine lv_iconst (v := Int32.ofInt (-1 : Int)) hx hb dX8_crossing_27 (by decide) ?_
    obtain rfl := Option.some.inj h
    exact hr _ _ _ _ dX8_crossing_28 hP hS
  · replace h := if_no hq h
    refine lv_aload_n hx hb dX8_crossing_16 rfl (lv_at hl 0 rfl) ?_
    refine gfWX_HiddenEdges_edges hc hP q_23 dX8_crossing_17 ?_
    refine lv_iload_n hx hb dX8_crossing_20 rfl (lv_at hl 2 rfl) ?_
    obtain ⟨S7, x9, hk8, h⟩ := ob2_at h
    refine cl_Vi (As := [.int (Int32.ofInt v2)]) (rest := []) hc k_X1_has q_658 (c_X1_has hk8) hP hS (WX_3 a g (em S3)) rfl rfl rfl hl (Nat.le_of_ble_eq_true rfl) dX8_crossing_21 (Nat.le_of_ble_eq_true rfl) (Nat.le_of_ble_eq_true rfl) rfl (fun H locs hP hS => ?_)
    obtain ⟨h10, h⟩ := chk_at h
    refine z_if_ne (tgt := 29) hx hb h10 dX8_crossing_24 (by decide) (fun hq => ?_) (fun hq => ?_)
    · replace h := if_no hq h
      refine lv_iload_n hx hb dX8_crossing_29 rfl (lv_at hl 3 rfl) ?_
      obtain ⟨h11, h⟩ := chk_at h
      refine z_if_lt (tgt := 38) hx hb h11 dX8_crossing_30 (by decide) (fun hq => ?_) (fun hq => ?_)
      · replace h := if_yes hq h
        refine lv_bipush (v := Int32.ofInt (-2 : Int)) hx hb dX8_crossing_38 (by decide) ?_
        obtain rfl := Option.some.inj h
        exact hr _ _ _ _ dX8_crossing_40 hP hS
      · replace h := if_no hq h
        refine lv_iload_n hx hb dX8_crossing_33 rfl (lv_at hl 3 rfl) ?_
        refine lv_iconst (v := Int32.ofInt (4 : Int)) hx hb dX8_crossing_34 (by decide) ?_
        refine z_icmp_le (tgt := 41) hx hb h11 (by decide) dX8_crossing_35 (by decide) (fun hq => ?_) (fun hq => ?_)
        · replace h := if_yes hq h
          refine lv_iload_n hx hb dX8_crossing_41 rfl (lv_at hl 1 rfl) ?_
          refine lv_iload_n hx hb dX8_crossing_42 rfl (lv_at hl 2 rfl) ?_
          obtain ⟨h12, h⟩ := chk_at h
          obtain ⟨h13, h⟩ := chk_at h
          refine z_icmp_ne (tgt := 49) hx hb h12 h13 dX8_crossing_43 (by decide) (fun hq => ?_) (fun hq => ?_)
          · replace h := if_no hq h
            refine lv_aload_n hx hb dX8_crossing_49 rfl (lv_at hl 0 rfl) ?_
            refine gfWX_HiddenEdges_meeting hc hP q_39 dX8_crossing_50 ?_
            refine lv_iload_n hx hb dX8_crossing_53 rfl (lv_at hl 1 rfl) ?_
            refine lv_iload_n hx hb dX8_crossing_54 rfl (lv_at hl 2 rfl) ?_
            refine lv_aload_n hx hb dX8_crossing_55 rfl (lv_at hl 0 rfl) ?_
            refine gfWX_HiddenEdges_edges hc hP q_23 dX8_crossing_56 ?_
            refine lv_aload_n hx hb dX8_crossing_59 rfl (lv_at hl 0 rfl) ?_
            refine gfWX_HiddenEdges_sight hc hP q_19 dX8_crossing_60 ?_
            obtain ⟨S14, x16, hk15, h⟩ := ob2_at h
            refine cl_Vi (As := [.int (Int32.ofInt v1), .int (Int32.ofInt v2), .ref (a 3), .ref (a 2)]) (rest := []) hc k_X3_find q_736 (c_X3_find hk15) hP hS (WX_7 a g (em S7)) rfl rfl rfl hl (Nat.le_of_ble_eq_true rfl) dX8_crossing_63 (Nat.le_of_ble_eq_true rfl) (Nat.le_of_ble_eq_true rfl) rfl (fun H locs hP hS => ?_)
            obtain ⟨h17, h⟩ := chk_at h
            refine z_if_ne (tgt := 72) hx hb h17 dX8_crossing_66 (by decide) (fun hq => ?_) (fun hq => ?_)
            · replace h := if_no hq h
              refine lv_iload_n hx hb dX8_crossing_72 rfl (lv_at hl 3 rfl) ?_
              refine lv_iconst (v := Int32.ofInt (4 : Int)) hx hb dX8_crossing_73 (by decide) ?_
              refine z_icmp_ne (tgt := 108) hx hb h11 (by decide) dX8_crossing_74 (by decide) (fun hq => ?_) (fun hq => ?_)
              · replace h := if_no hq h
                refine lv_iload_n hx hb dX8_crossing_108 rfl (lv_at hl 3 rfl) ?_
                refine lv_iconst (v := Int32.ofInt (2 : Int)) hx hb dX8_crossing_109 (by decide) ?_
                refine z_icmp_ge (tgt := 123) hx hb h11 (by decide) dX8_crossing_110 (by decide) (fun hq => ?_) (fun hq => ?_)
                · replace h := if_yes hq h
                  refine lv_aload_n hx hb dX8_crossing_123 rfl (lv_at hl 0 rfl) ?_
                  refine gfWX_HiddenEdges_meeting hc hP q_39 dX8_crossing_124 ?_
                  refine gzWX_Meeting_upOnSecond hc hP q_734 dX8_crossing_127 ?_
                  exact t_X8_crossing_p130 hc hr S14 v3 (zi S14 19) h H locs ls hP hS (lv_sub hl [0, 3] rfl)
                · replace h := if_no hq h
                  refine lv_aload_n hx hb dX8_crossing_113 rfl (lv_at hl 0 rfl) ?_
                  refine gfWX_HiddenEdges_meeting hc hP q_39 dX8_crossing_114 ?_
                  refine gzWX_Meeting_upOnFirst hc hP q_733 dX8_crossing_117 ?_
                  refine lv_goto (tgt := 130) hx hb dX8_crossing_120 (by decide) ?_
                  exact t_X8_crossing_p130 hc hr S14 v3 (zi S14 18) h H locs ls hP hS (lv_sub hl [0, 3] rfl)
              · replace h := if_yes hq h
                refine lv_aload_n hx hb dX8_crossing_77 rfl (lv_at hl 0 rfl) ?_
                refine gfWX_HiddenEdges_meeting hc hP q_39 dX8_crossing_78 ?_
                refine gzWX_Meeting_lead hc hP q_732 dX8_crossing_81 ?_
                obtain ⟨h18, h⟩ := chk_at h
                refine z_if_le (tgt := 91) hx hb h18 dX8_crossing_84 (by decide) (fun hq => ?_) (fun hq => ?_)
                · replace h := if_yes hq h
                  refine lv_aload_n hx hb dX8_crossing_91 rfl (lv_at hl 0 rfl) ?_
                  refine gfWX_HiddenEdges_meeting hc hP q_39 dX8_crossing_92 ?_
                  refine gzWX_Meeting_lead hc hP q_732 dX8_crossing_95 ?_
                  refine z_if_ge (tgt := 105) hx hb h18 dX8_crossing_98 (by decide) (fun hq => ?_) (fun hq => ?_)
                  · replace h := if_yes hq h
                    refine lv_bipush (v := Int32.ofInt (-9 : Int)) hx hb dX8_crossing_105 (by decide) ?_
                    obtain rfl := Option.some.inj h
                    exact hr _ _ _ _ dX8_crossing_107 hP hS
                  · replace h := if_no hq h
                    refine lv_iload_n hx hb dX8_crossing_101 rfl (lv_at hl 2 rfl) ?_
                    refine lv_goto (tgt := 107) hx hb dX8_crossing_102 (by decide) ?_
                    obtain rfl := Option.some.inj h
                    exact hr _ _ _ _ dX8_crossing_107 hP hS
                · replace h := if_no hq h
                  refine lv_iload_n hx hb dX8_crossing_87 rfl (lv_at hl 1 rfl) ?_
                  refine lv_goto (tgt := 107) hx hb dX8_crossing_88 (by decide) ?_
                  obtain rfl := Option.some.inj h
                  exact hr _ _ _ _ dX8_crossing_107 hP hS
            · replace h := if_yes hq h
              refine lv_bipush (v := Int32.ofInt (-9 : Int)) hx hb dX8_crossing_69 (by decide) ?_
              obtain rfl := Option.some.inj h
              exact hr _ _ _ _ dX8_crossing_71 hP hS
          · replace h := if_yes hq h
            refine lv_bipush (v := Int32.ofInt (-3 : Int)) hx hb dX8_crossing_46 (by decide) ?_
            obtain rfl := Option.some.inj h
            exact hr _ _ _ _ dX8_crossing_48 hP hS
        · replace h := if_no hq h
          refine lv_bipush (v := Int32.ofInt (-2 : Int)) hx hb dX8_crossing_38 (by decide) ?_
          obtain rfl := Option.some.inj h
          exact hr _ _ _ _ dX8_crossing_40 hP hS
    · replace h := if_yes hq h
      refine lv_iconst (v := Int32.ofInt (-1 : Int)) hx hb dX8_crossing_27 (by decide) ?_
      obtain rfl := Option.some.inj h
      exact hr _ _ _ _ dX8_crossing_28 hP hS
abbrev rm_X8_crossing : Room := { frames := 6, cells := 0, slots := 0, locals := 157 }
theorem c_X8_crossing {l : Launch} {D : va_G} {a : Nat → Nat} {g : Nat → ClassId} {S : SZ} {v1 : Int} {v2 : Int} {v3 : Int} {Z1 : SZ} {r1 : Int} (h : f_X8_crossing S v1 v2 v3 = some (Z1, r1)) : MetI l D (tysWX g) (WX a g) E0 yX8_crossing cX8_crossing 5 (some .int) rm_X8_crossing [.ref (a 0), .int (Int32.ofInt v1), .int (Int32.ofInt v2), .int (Int32.ofInt v3)] (em S) (em Z1, Int32.ofInt r1) := mk_i (WX_same a g) (by decide) (em Z1, Int32.ofInt r1) (Nat.le_of_ble_eq_true rfl) (fun p e s m args below meth c A Q hc hE hr => t_X8_crossing (z := (Z1, r1)) hc hr S v1 v2 v3 h)
theorem k_X8_crossing : CalV RX8 yX8_crossing cX8_crossing 5 (some .int) rm_X8_crossing 3 := ⟨q_729, q_730, q_2, q_731, by decide +kernel, rfl, rfl⟩
set_option maxHeartbeats 4000000 in
set_option maxRecDepth 100000 in
theorem t_X8_stroke {z : SZ × Int} (hc : Cx p R s m args c D (tysWX g) A (WX a g) cX8_stroke 3 RX8 6 157) (hr : Rti p l e R s m args below meth c Q D A (WX a g) cX8_stroke (em z.1, Int32.ofInt z.2)) : ∀ (S : SZ) (v1 : Int) (v2 : Int), f_X8_stroke S v1 v2 = some z → Go p l e R s m args below meth c Q D A (WX a g) 3 (em S) 0 [(0, .ref (a 0)), (1, .int (Int32.ofInt v1)), (2, .int (Int32.ofInt v2))] [] := by
  obtain ⟨⟨hx, hb, hml, hown, hts⟩, -, -, -, hnf, hno⟩ := id hc
  intro S v1 v2 h H locs ls hP hS hl
  rw [f_X8_stroke] at h
  replace hl : lv_has ls 3 [(0, .ref (a 0)), (1, .int (Int32.ofInt v1)), (2, .int (Int32.ofInt v2))] := hl
  refine lv_aload_n hx hb dX8_stroke_0 rfl (lv_at hl 0 rfl) ?_
  refine lv_iconst (v := Int32.ofInt (3 : Int)) hx hb dX8_stroke_1 (by decide) ?_
  obtain ⟨S1, hk2, h⟩ := ob1_at h
  refine cl_Vv (As := [.int (Int32.ofInt (3 : Int))]) (rest := []) hc k_X8_settle q_332 (c_X8_settle hk2) hP hS (WX_0 a g (em S)) rfl rfl rfl hl (Nat.le_of_ble_eq_true rfl) dX8_stroke_2 (Nat.le_of_ble_eq_true rfl) (Nat.le_of_ble_eq_true rfl) rfl (fun H locs hP hS => ?_)
  refine lv_aload_n hx hb dX8_stroke_5 rfl (lv_at hl 0 rfl) ?_
  refine gfWX_HiddenEdges_strokes hc hP q_35 dX8_stroke_6 ?_
  refine lv_iload_n hx hb dX8_stroke_9 rfl (lv_at hl 1 rfl) ?_
  obtain ⟨S3, x5, hk4, h⟩ := ob2_at h
  refine cl_Vi (As := [.int (Int32.ofInt v1)]) (rest := []) hc k_X7_has q_770 (c_X7_has hk4) hP hS (WX_6 a g (em S1)) rfl rfl rfl hl (Nat.le_of_ble_eq_true rfl) dX8_stroke_10 (Nat.le_of_ble_eq_true rfl) (Nat.le_of_ble_eq_true rfl) rfl (fun H locs hP hS => ?_)
  obtain ⟨h6, h⟩ := chk_at h
  refine z_if_ne (tgt := 18) hx hb h6 dX8_stroke_13 (by decide) (fun hq => ?_) (fun hq => ?_)
  · replace h := if_no hq h
    refine lv_iload_n hx hb dX8_stroke_18 rfl (lv_at hl 2 rfl) ?_
    obtain ⟨h7, h⟩ := chk_at h
    by_cases hsw : v2 < 0 ∨ 2 < v2
    · replace h := if_yes hsw h
      refine lv_tableOut (tgt := 83) hx hb dX8_stroke_19 (by rw [o32 h7]; exact hsw) (by decide) ?_
      refine lv_bipush (v := Int32.ofInt (-2 : Int)) hx hb dX8_stroke_83 (by decide) ?_
      obtain rfl := Option.some.inj h
      exact hr _ _ _ _ dX8_stroke_85 hP hS
    replace h := if_no hsw h
    by_cases hs0 : v2 = 0
    · replace h := if_yes hs0 h
      refine lv_tableIn (off := 25) (tgt := 44) hx hb dX8_stroke_19 (by rw [o32 h7]; exact fun h9 => hsw (Or.inl h9)) (by rw [o32 h7]; exact fun h9 => hsw (Or.inr h9)) (by rw [o32 h7, hs0]; rfl) (by decide) ?_
      refine lv_aload_n hx hb dX8_stroke_44 rfl (lv_at hl 0 rfl) ?_
      refine gfWX_HiddenEdges_strokes hc hP q_35 dX8_stroke_45 ?_
      refine lv_iload_n hx hb dX8_stroke_48 rfl (lv_at hl 1 rfl) ?_
      obtain ⟨S8, x10, hk9, h⟩ := ob2_at h
      refine cl_Vi (As := [.int (Int32.ofInt v1)]) (rest := []) hc k_X7_length q_774 (c_X7_length hk9) hP hS (WX_6 a g (em S3)) rfl rfl rfl hl (Nat.le_of_ble_eq_true rfl) dX8_stroke_49 (Nat.le_of_ble_eq_true rfl) (Nat.le_of_ble_eq_true rfl) rfl (fun H locs hP hS => ?_)
      obtain rfl := Option.some.inj h
      exact hr _ _ _ _ dX8_stroke_52 hP hS
    replace h := if_no hs0 h
    by_cases hs1 : v2 = 1
    · replace h := if_yes hs1 h
      refine lv_tableIn (off := 34) (tgt := 53) hx hb dX8_stroke_19 (by rw [o32 h7]; exact fun h9 => hsw (Or.inl h9)) (by rw [o32 h7]; exact fun h9 => hsw (Or.inr h9)) (by rw [o32 h7, hs1]; rfl) (by decide) ?_
      refine lv_aload_n hx hb dX8_stroke_53 rfl (lv_at hl 0 rfl) ?_
      refine gfWX_HiddenEdges_strokes hc hP q_35 dX8_stroke_54 ?_
      refine lv_iload_n hx hb dX8_stroke_57 rfl (lv_at hl 1 rfl) ?_
      refine lv_aload_n hx hb dX8_stroke_58 rfl (lv_at hl 0 rfl) ?_
      refine gfWX_HiddenEdges_edges hc hP q_23 dX8_stroke_59 ?_
      obtain ⟨S11, x13, hk12, h⟩ := ob2_at h
      refine cl_Vi (As := [.int (Int32.ofInt v1), .ref (a 3)]) (rest := []) hc k_X7_startPoint q_778 (c_X7_startPoint hk12) hP hS (WX_6 a g (em S3)) rfl rfl rfl hl (Nat.le_of_ble_eq_true rfl) dX8_stroke_62 (Nat.le_of_ble_eq_true rfl) (Nat.le_of_ble_eq_true rfl) rfl (fun H locs hP hS => ?_)
      obtain rfl := Option.some.inj h
      exact hr _ _ _ _ dX8_stroke_65 hP hS
    replace h := if_no hs1 h
    by_cases hs2 : v2 = 2
    · replace h := if_yes hs2 h
      refine lv_tableIn (off := 47) (tgt := 66) hx hb dX8_stroke_19 (by rw [o32 h7]; exact fun h9 => hsw (Or.inl h9)) (by rw [o32 h7]; exact fun h9 => hsw (Or.inr h9)) (by rw [o32 h7, hs2]; rfl) (by decide) ?_
      refine lv_aload_n hx hb dX8_stroke_66 rfl (lv_at hl 0 rfl) ?_
      refine gfWX_HiddenEdges_strokes hc hP q_35 dX8_stroke_67 ?_
      refine lv_iload_n hx hb dX8_stroke_70 rfl (lv_at hl 1 rfl) ?_
      refine lv_aload_n hx hb dX8_stroke_71 rfl (lv_at hl 0 rfl) ?_
      refine gfWX_HiddenEdges_edges hc hP q_23 dX8_stroke_72 ?_
      refine lv_aload_n hx hb dX8_stroke_75 rfl (lv_at hl 0 rfl) ?_
      refine gfWX_HiddenEdges_pieces hc hP q_31 dX8_stroke_76 ?_
      obtain ⟨S14, x16, hk15, h⟩ := ob2_at h
      refine cl_Vi (As := [.int (Int32.ofInt v1), .ref (a 3), .ref (a 5)]) (rest := []) hc k_X7_endPoint q_782 (c_X7_endPoint hk15) hP hS (WX_6 a g (em S3)) rfl rfl rfl hl (Nat.le_of_ble_eq_true rfl) dX8_stroke_79 (Nat.le_of_ble_eq_true rfl) (Nat.le_of_ble_eq_true rfl) rfl (fun H locs hP hS => ?_)
      obtain rfl := Option.some.inj h
      exact hr _ _ _ _ dX8_stroke_82 hP hS
    replace h := if_no hs2 h
    cases h
  · replace h := if_yes hq h
    refine lv_iconst (v := Int32.ofInt (-1 : Int)) hx hb dX8_stroke_16 (by decide) ?_
    obtain rfl := Option.some.inj h
    exact hr _ _ _ _ dX8_stroke_17 hP hS
abbrev rm_X8_stroke : Room := { frames := 6, cells := 0, slots := 0, locals := 157 }
theorem c_X8_stroke {l : Launch} {D : va_G} {a : Nat → Nat} {g : Nat → ClassId} {S : SZ} {v1 : Int} {v2 : Int} {Z1 : SZ} {r1 : Int} (h : f_X8_stroke S v1 v2 = some (Z1, r1)) : MetI l D (tysWX g) (WX a g) E0 yX8_stroke cX8_stroke 3 (some .int) rm_X8_stroke [.ref (a 0), .int (Int32.ofInt v1), .int (Int32.ofInt v2)] (em S) (em Z1, Int32.ofInt r1) := mk_i (WX_same a g) (by decide) (em Z1, Int32.ofInt r1) (Nat.le_of_ble_eq_true rfl) (fun p e s m args below meth c A Q hc hE hr => t_X8_stroke (z := (Z1, r1)) hc hr S v1 v2 h)
theorem k_X8_stroke : CalV RX8 yX8_stroke cX8_stroke 3 (some .int) rm_X8_stroke 2 := ⟨q_767, q_768, q_2, q_769, by decide +kernel, rfl, rfl⟩
set_option maxHeartbeats 4000000 in
set_option maxRecDepth 100000 in
theorem t_X8_strokePiece {z : SZ × Int} (hc : Cx p R s m args c D (tysWX g) A (WX a g) cX8_strokePiece 5 RX8 6 157) (hr : Rti p l e R s m args below meth c Q D A (WX a g) cX8_strokePiece (em z.1, Int32.ofInt z.2)) : ∀ (S : SZ) (v1 : Int) (v2 : Int) (v3 : Int), f_X8_strokePiece S v1 v2 v3 = some z → Go p l e R s m args below meth c Q D A (WX a g) 5 (em S) 0 [(0, .ref (a 0)), (1, .int (Int32.ofInt v1)), (2, .int (Int32.ofInt v2)), (3, .int (Int32.ofInt v3))] [] := by
  obtain ⟨⟨hx, hb, hml, hown, hts⟩, -, -, -, hnf, hno⟩ := id hc
  intro S v1 v2 v3 h H locs ls hP hS hl
  rw [f_X8_strokePiece] at h
  replace hl : lv_has ls 5 [(0, .ref (a 0)), (1, .int (Int32.ofInt v1)), (2, .int (Int32.ofInt v2)), (3, .int (Int32.ofInt v3))] := hl
  refine lv_aload_n hx hb dX8_strokePiece_0 rfl (lv_at hl 0 rfl) ?_
  refine lv_iconst (v := Int32.ofInt (3 : Int)) hx hb dX8_strokePiece_1 (by decide) ?_
  obtain ⟨S1, hk2, h⟩ := ob1_at h
  refine cl_Vv (As := [.int (Int32.ofInt (3 : Int))]) (rest := []) hc k_X8_settle q_332 (c_X8_settle hk2) hP hS (WX_0 a g (em S)) rfl rfl rfl hl (Nat.le_of_ble_eq_true rfl) dX8_strokePiece_2 (Nat.le_of_ble_eq_true rfl) (Nat.le_of_ble_eq_true rfl) rfl (fun H locs hP hS => ?_)
  refine lv_aload_n hx hb dX8_strokePiece_5 rfl (lv_at hl 0 rfl) ?_
  refine gfWX_HiddenEdges_strokes hc hP q_35 dX8_strokePiece_6 ?_
  refine lv_iload_n hx hb dX8_strokePiece_9 rfl (lv_at hl 1 rfl) ?_
  obtain ⟨S3, x5, hk4, h⟩ := ob2_at h
  refine cl_Vi (As := [.int (Int32.ofInt v1)]) (rest := []) hc k_X7_has q_770 (c_X7_has hk4) hP hS (WX_6 a g (em S1)) rfl rfl rfl hl (Nat.le_of_ble_eq_true rfl) dX8_strokePiece_10 (Nat.le_of_ble_eq_true rfl) (Nat.le_of_ble_eq_true rfl) rfl (fun H locs hP hS => ?_)
  obtain ⟨h6, h⟩ := chk_at h
  refine z_if_eq (tgt := 32) hx hb h6 dX8_strokePiece_13 (by decide) (fun hq => ?_) (fun hq => ?_)
  · replace h := if_yes hq h
    refine lv_iconst (v := Int32.ofInt (-1 : Int)) hx hb dX8_strokePiece_32 (by decide) ?_
    obtain rfl := Option.some.inj h
    exact hr _ _ _ _ dX8_strokePiece_33 hP hS
  · replace h := if_no hq h
    refine lv_iload_n hx hb dX8_strokePiece_16 rfl (lv_at hl 2 rfl) ?_
    obtain ⟨h7, h⟩ := chk_at h
    refine z_if_lt (tgt := 32) hx hb h7 dX8_strokePiece_17 (by decide) (fun hq => ?_) (fun hq => ?_)
    · replace h := if_yes hq h
      refine lv_iconst (v := Int32.ofInt (-1 : Int)) hx hb dX8_strokePiece_32 (by decide) ?_
      obtain rfl := Option.some.inj h
      exact hr _ _ _ _ dX8_strokePiece_33 hP hS
    · replace h := if_no hq h
      refine lv_iload_n hx hb dX8_strokePiece_20 rfl (lv_at hl 2 rfl) ?_
      refine lv_aload_n hx hb dX8_strokePiece_21 rfl (lv_at hl 0 rfl) ?_
      refine gfWX_HiddenEdges_strokes hc hP q_35 dX8_strokePiece_22 ?_
      refine lv_iload_n hx hb dX8_strokePiece_25 rfl (lv_at hl 1 rfl) ?_
      obtain ⟨S8, x10, hk9, h⟩ := ob2_at h
      refine cl_Vi (As := [.int (Int32.ofInt v1)]) (rest := [.int (Int32.ofInt v2)]) hc k_X7_length q_774 (c_X7_length hk9) hP hS (WX_6 a g (em S3)) rfl rfl rfl hl (Nat.le_of_ble_eq_true rfl) dX8_strokePiece_26 (Nat.le_of_ble_eq_true rfl) (Nat.le_of_ble_eq_true rfl) rfl (fun H locs hP hS => ?_)
      obtain ⟨h11, h⟩ := chk_at h
      refine z_icmp_lt (tgt := 34) hx hb h7 h11 dX8_strokePiece_29 (by decide) (fun hq => ?_) (fun hq => ?_)
      · replace h := if_yes hq h
        refine lv_aload_n hx hb dX8_strokePiece_34 rfl (lv_at hl 0 rfl) ?_
        refine gfWX_HiddenEdges_strokes hc hP q_35 dX8_strokePiece_35 ?_
        refine gfWX_Strokes_step hc hP q_799 dX8_strokePiece_38 ?_
        refine lv_aload_n hx hb dX8_strokePiece_41 rfl (lv_at hl 0 rfl) ?_
        refine gfWX_HiddenEdges_strokes hc hP q_35 dX8_strokePiece_42 ?_
        refine gfWX_Strokes_first hc hP q_800 dX8_strokePiece_45 ?_
        refine lv_iload_n hx hb dX8_strokePiece_48 rfl (lv_at hl 1 rfl) ?_
        obtain ⟨h12, h⟩ := chk_at h
        refine azWX_Strokes_first hc hP h12 dX8_strokePiece_49 ?_
        refine lv_iload_n hx hb dX8_strokePiece_50 rfl (lv_at hl 2 rfl) ?_
        refine z_iadd hx hb dX8_strokePiece_51 ?_
        obtain ⟨h13, h⟩ := chk_at h
        refine azWX_Strokes_step hc hP h13 dX8_strokePiece_52 ?_
        refine z_topi (fun x14 ex14 => ?_)
        replace h := olet_at ex14 h
        refine lv_istore (lv' := [(4, .int (Int32.ofInt x14)), (0, .ref (a 0)), (1, .int (Int32.ofInt v1)), (2, .int (Int32.ofInt v2)), (3, .int (Int32.ofInt v3))]) hx hb dX8_strokePiece_53 hl (by decide) rfl (fun ls hl => ?_)
        refine lv_iload_n hx hb dX8_strokePiece_55 rfl (lv_at hl 4 rfl) ?_
        obtain ⟨h15, h⟩ := chk_at h
        by_cases hsw : v3 < 0 ∨ 2 < v3
        · replace h := if_yes hsw h
          refine lv_tableOut (tgt := 110) hx hb dX8_strokePiece_56 (by rw [o32 h15]; exact hsw) (by decide) ?_
          refine lv_bipush (v := Int32.ofInt (-2 : Int)) hx hb dX8_strokePiece_110 (by decide) ?_
          obtain rfl := Option.some.inj h
          exact hr _ _ _ _ dX8_strokePiece_112 hP hS
        replace h := if_no hsw h
        by_cases hs0 : v3 = 0
        · replace h := if_yes hs0 h
          refine lv_tableIn (off := 28) (tgt := 84) hx hb dX8_strokePiece_56 (by rw [o32 h15]; exact fun h9 => hsw (Or.inl h9)) (by rw [o32 h15]; exact fun h9 => hsw (Or.inr h9)) (by rw [o32 h15, hs0]; rfl) (by decide) ?_
          refine lv_iload hx hb dX8_strokePiece_84 (lv_at hl 0 rfl) ?_
          obtain ⟨S16, x18, hk17, h⟩ := ob2_at h
          refine cl_Si (As := [.int (Int32.ofInt x14)]) (rest := []) hc k_X7_edgeOf q_801 (c_X7_edgeOf hk17) hP hS rfl hl (Nat.le_of_ble_eq_true rfl) dX8_strokePiece_86 (Nat.le_of_ble_eq_true rfl) (Nat.le_of_ble_eq_true rfl) rfl (fun H locs hP hS => ?_)
          obtain rfl := Option.some.inj h
          exact hr _ _ _ _ dX8_strokePiece_89 hP hS
        replace h := if_no hs0 h
        by_cases hs1 : v3 = 1
        · replace h := if_yes hs1 h
          refine lv_tableIn (off := 34) (tgt := 90) hx hb dX8_strokePiece_56 (by rw [o32 h15]; exact fun h9 => hsw (Or.inl h9)) (by rw [o32 h15]; exact fun h9 => hsw (Or.inr h9)) (by rw [o32 h15, hs1]; rfl) (by decide) ?_
          refine lv_iload hx hb dX8_strokePiece_90 (lv_at hl 0 rfl) ?_
          obtain ⟨S19, x21, hk20, h⟩ := ob2_at h
          refine cl_Si (As := [.int (Int32.ofInt x14)]) (rest := []) hc k_X7_pieceOf q_802 (c_X7_pieceOf hk20) hP hS rfl hl (Nat.le_of_ble_eq_true rfl) dX8_strokePiece_92 (Nat.le_of_ble_eq_true rfl) (Nat.le_of_ble_eq_true rfl) rfl (fun H locs hP hS => ?_)
          obtain rfl := Option.some.inj h
          exact hr _ _ _ _ dX8_strokePiece_95 hP hS
        replace h := if_no hs1 h
        by_cases hs2 : v3 = 2
        · replace h := if_yes hs2 h
          refine lv_tableIn (off := 40) (tgt := 96) hx hb dX8_strokePiece_56 (by rw [o32 h15]; exact fun h9 => hsw (Or.inl h9)) (by rw [o32 h15]; exact fun h9 => hsw (Or.inr h9)) (by rw [o32 h15, hs2]; rfl) (by decide) ?_
          refine lv_iload hx hb dX8_strokePiece_96 (lv_at hl 0 rfl) ?_
          obtain ⟨S22, x24, hk23, h⟩ := ob2_at h
          refine cl_Si (As := [.int (Int32.ofInt x14)]) (rest := []) hc k_X7_isForward q_803 (c_X7_isForward hk23) hP hS rfl hl (Nat.le_of_ble_eq_true rfl) dX8_strokePiece_98 (Nat.le_of_ble_eq_true rfl) (Nat.le_of_ble_eq_true rfl) rfl (fun H locs hP hS => ?_)
          obtain ⟨h25, h⟩ := chk_at h
          refine z_if_eq (tgt := 108) hx hb h25 dX8_strokePiece_101 (by decide) (fun hq => ?_) (fun hq => ?_)
          · replace h := if_yes hq h
            refine lv_iconst (v := Int32.ofInt (0 : Int)) hx hb dX8_strokePiece_108 (by decide) ?_
            obtain rfl := Option.some.inj h
            exact hr _ _ _ _ dX8_strokePiece_109 hP hS
          · replace h := if_no hq h
            refine lv_iconst (v := Int32.ofInt (1 : Int)) hx hb dX8_strokePiece_104 (by decide) ?_
            refine lv_goto (tgt := 109) hx hb dX8_strokePiece_105 (by decide) ?_
            obtain rfl := Option.some.inj h
            exact hr _ _ _ _ dX8_strokePiece_109 hP hS
        replace h := if_no hs2 h
        cases h
      · replace h := if_no hq h
        refine lv_iconst (v := Int32.ofInt (-1 : Int)) hx hb dX8_strokePiece_32 (by decide) ?_
        obtain rfl := Option.some.inj h
        exact hr _ _ _ _ dX8_strokePiece_33 hP hS
abbrev rm_X8_strokePiece : Room := { frames := 6, cells := 0, slots := 0, locals := 157 }
theorem c_X8_strokePiece {l : Launch} {D : va_G} {a : Nat → Nat} {g : Nat → ClassId} {S : SZ} {v1 : Int} {v2 : Int} {v3 : Int} {Z1 : SZ} {r1 : Int} (h : f_X8_strokePiece S v1 v2 v3 = some (Z1, r1)) : MetI l D (tysWX g) (WX a g) E0 yX8_strokePiece cX8_strokePiece 5 (some .int) rm_X8_strokePiece [.ref (a 0), .int (Int32.ofInt v1), .int (Int32.ofInt v2), .int (Int32.ofInt v3)] (em S) (em Z1, Int32.ofInt r1) := mk_i (WX_same a g) (by decide) (em Z1, Int32.ofInt r1) (Nat.le_of_ble_eq_true rfl) (fun p e s m args below meth c A Q hc hE hr => t_X8_strokePiece (z := (Z1, r1)) hc hr S v1 v2 v3 h)
theorem k_X8_strokePiece : CalV RX8 yX8_strokePiece cX8_strokePiece 5 (some .int) rm_X8_strokePiece 3 := ⟨q_796, q_797, q_2, q_798, by decide +kernel, rfl, rfl⟩
set_option maxHeartbeats 4000000 in
set_option maxRecDepth 100000 in
theorem t_X8_many {z : SZ × Int} (hc : Cx p R s m args c D (tysWX g) A (WX a g) cX8_many 2 RX8 6 157) (hr : Rti p l e R s m args below meth c Q D A (WX a g) cX8_many (em z.1, Int32.ofInt z.2)) : ∀ (S : SZ) (v1 : Int), f_X8_many S v1 = some z → Go p l e R s m args below meth c Q D A (WX a g) 2 (em S) 0 [(0, .ref (a 0)), (1, .int (Int32.ofInt v1))] [] := by
  obtain ⟨⟨hx, hb, hml, hown, hts⟩, -, -, -, hnf, hno⟩ := id hc
  intro S v1 h H locs ls hP hS hl
  rw [f_X8_many] at h
  replace hl : lv_has ls 2 [(0, .ref (a 0)), (1, .int (Int32.ofInt v1))] := hl
  refine lv_iload_n hx hb dX8_many_0 rfl (lv_at hl 1 rfl) ?_
  obtain ⟨h1, h⟩ := chk_at h
  refine z_if_lt (tgt := 10) hx hb h1 dX8_many_1 (by decide) (fun hq => ?_) (fun hq => ?_)
  · replace h := if_yes hq h
    refine lv_bipush (v := Int32.ofInt (-2 : Int)) hx hb dX8_many_10 (by decide) ?_
    obtain rfl := Option.some.inj h
    exact hr _ _ _ _ dX8_many_12 hP hS
  · replace h := if_no hq h
    refine lv_iload_n hx hb dX8_many_4 rfl (lv_at hl 1 rfl) ?_
    refine lv_bipush (v := Int32.ofInt (11 : Int)) hx hb dX8_many_5 (by decide) ?_
    refine z_icmp_le (tgt := 13) hx hb h1 (by decide) dX8_many_7 (by decide) (fun hq => ?_) (fun hq => ?_)
    · replace h := if_yes hq h
      refine lv_aload_n hx hb dX8_many_13 rfl (lv_at hl 0 rfl) ?_
      refine lv_iload_n hx hb dX8_many_14 rfl (lv_at hl 1 rfl) ?_
      obtain ⟨S2, x4, hk3, h⟩ := ob2_at h
      refine cl_Si (As := [.int (Int32.ofInt v1)]) (rest := [.ref (a 0)]) hc k_X8_levelFor q_817 (c_X8_levelFor hk3) hP hS rfl hl (Nat.le_of_ble_eq_true rfl) dX8_many_15 (Nat.le_of_ble_eq_true rfl) (Nat.le_of_ble_eq_true rfl) rfl (fun H locs hP hS => ?_)
      obtain ⟨S5, hk6, h⟩ := ob1_at h
      refine cl_Vv (As := [.int (Int32.ofInt x4)]) (rest := []) hc k_X8_settle q_332 (c_X8_settle hk6) hP hS (WX_0 a g (em S2)) rfl rfl rfl hl (Nat.le_of_ble_eq_true rfl) dX8_many_18 (Nat.le_of_ble_eq_true rfl) (Nat.le_of_ble_eq_true rfl) rfl (fun H locs hP hS => ?_)
      refine lv_iload_n hx hb dX8_many_21 rfl (lv_at hl 1 rfl) ?_
      by_cases hsw : v1 < 0 ∨ 10 < v1
      · replace h := if_yes hsw h
        refine lv_tableOut (tgt := 167) hx hb dX8_many_22 (by rw [o32 h1]; exact hsw) (by decide) ?_
        refine lv_aload_n hx hb dX8_many_167 rfl (lv_at hl 0 rfl) ?_
        refine gfWX_HiddenEdges_pieces hc hP q_31 dX8_many_168 ?_
        refine gzWX_Pieces_greatest hc hP q_816 dX8_many_171 ?_
        obtain rfl := Option.some.inj h
        exact hr _ _ _ _ dX8_many_174 hP hS
      replace h := if_no hsw h
      by_cases hs0 : v1 = 0
      · replace h := if_yes hs0 h
        refine lv_tableIn (off := 58) (tgt := 80) hx hb dX8_many_22 (by rw [o32 h1]; exact fun h9 => hsw (Or.inl h9)) (by rw [o32 h1]; exact fun h9 => hsw (Or.inr h9)) (by rw [o32 h1, hs0]; rfl) (by decide) ?_
        refine lv_aload_n hx hb dX8_many_80 rfl (lv_at hl 0 rfl) ?_
        refine gfWX_HiddenEdges_mesh hc hP q_15 dX8_many_81 ?_
        refine gzWX_Mesh_points hc hP q_126 dX8_many_84 ?_
        obtain rfl := Option.some.inj h
        exact hr _ _ _ _ dX8_many_87 hP hS
      replace h := if_no hs0 h
      by_cases hs1 : v1 = 1
      · replace h := if_yes hs1 h
        refine lv_tableIn (off := 66) (tgt := 88) hx hb dX8_many_22 (by rw [o32 h1]; exact fun h9 => hsw (Or.inl h9)) (by rw [o32 h1]; exact fun h9 => hsw (Or.inr h9)) (by rw [o32 h1, hs1]; rfl) (by decide) ?_
        refine lv_aload_n hx hb dX8_many_88 rfl (lv_at hl 0 rfl) ?_
        refine gfWX_HiddenEdges_mesh hc hP q_15 dX8_many_89 ?_
        refine gzWX_Mesh_faces hc hP q_174 dX8_many_92 ?_
        obtain rfl := Option.some.inj h
        exact hr _ _ _ _ dX8_many_95 hP hS
      replace h := if_no hs1 h
      by_cases hs2 : v1 = 2
      · replace h := if_yes hs2 h
        refine lv_tableIn (off := 74) (tgt := 96) hx hb dX8_many_22 (by rw [o32 h1]; exact fun h9 => hsw (Or.inl h9)) (by rw [o32 h1]; exact fun h9 => hsw (Or.inr h9)) (by rw [o32 h1, hs2]; rfl) (by decide) ?_
        refine lv_aload_n hx hb dX8_many_96 rfl (lv_at hl 0 rfl) ?_
        refine gfWX_HiddenEdges_mesh hc hP q_15 dX8_many_97 ?_
        refine gzWX_Mesh_wires hc hP q_232 dX8_many_100 ?_
        obtain rfl := Option.some.inj h
        exact hr _ _ _ _ dX8_many_103 hP hS
      replace h := if_no hs2 h
      by_cases hs3 : v1 = 3
      · replace h := if_yes hs3 h
        refine lv_tableIn (off := 82) (tgt := 104) hx hb dX8_many_22 (by rw [o32 h1]; exact fun h9 => hsw (Or.inl h9)) (by rw [o32 h1]; exact fun h9 => hsw (Or.inr h9)) (by rw [o32 h1, hs3]; rfl) (by decide) ?_
        refine lv_aload_n hx hb dX8_many_104 rfl (lv_at hl 0 rfl) ?_
        refine gfWX_HiddenEdges_edges hc hP q_23 dX8_many_105 ?_
        refine gzWX_Edges_count hc hP q_812 dX8_many_108 ?_
        obtain rfl := Option.some.inj h
        exact hr _ _ _ _ dX8_many_111 hP hS
      replace h := if_no hs3 h
      by_cases hs4 : v1 = 4
      · replace h := if_yes hs4 h
        refine lv_tableIn (off := 90) (tgt := 112) hx hb dX8_many_22 (by rw [o32 h1]; exact fun h9 => hsw (Or.inl h9)) (by rw [o32 h1]; exact fun h9 => hsw (Or.inr h9)) (by rw [o32 h1, hs4]; rfl) (by decide) ?_
        refine lv_aload_n hx hb dX8_many_112 rfl (lv_at hl 0 rfl) ?_
        refine gfWX_HiddenEdges_pieces hc hP q_31 dX8_many_113 ?_
        refine gzWX_Pieces_all hc hP q_813 dX8_many_116 ?_
        obtain rfl := Option.some.inj h
        exact hr _ _ _ _ dX8_many_119 hP hS
      replace h := if_no hs4 h
      by_cases hs5 : v1 = 5
      · replace h := if_yes hs5 h
        refine lv_tableIn (off := 98) (tgt := 120) hx hb dX8_many_22 (by rw [o32 h1]; exact fun h9 => hsw (Or.inl h9)) (by rw [o32 h1]; exact fun h9 => hsw (Or.inr h9)) (by rw [o32 h1, hs5]; rfl) (by decide) ?_
        refine lv_aload_n hx hb dX8_many_120 rfl (lv_at hl 0 rfl) ?_
        refine gfWX_HiddenEdges_pieces hc hP q_31 dX8_many_121 ?_
        refine gzWX_Pieces_allVisible hc hP q_814 dX8_many_124 ?_
        obtain rfl := Option.some.inj h
        exact hr _ _ _ _ dX8_many_127 hP hS
      replace h := if_no hs5 h
      by_cases hs6 : v1 = 6
      · replace h := if_yes hs6 h
        refine lv_tableIn (off := 106) (tgt := 128) hx hb dX8_many_22 (by rw [o32 h1]; exact fun h9 => hsw (Or.inl h9)) (by rw [o32 h1]; exact fun h9 => hsw (Or.inr h9)) (by rw [o32 h1, hs6]; rfl) (by decide) ?_
        refine lv_aload_n hx hb dX8_many_128 rfl (lv_at hl 0 rfl) ?_
        refine gfWX_HiddenEdges_edges hc hP q_23 dX8_many_129 ?_
        refine lv_iconst (v := Int32.ofInt (2 : Int)) hx hb dX8_many_132 (by decide) ?_
        obtain ⟨S7, x9, hk8, h⟩ := ob2_at h
        refine cl_Vi (As := [.int (Int32.ofInt (2 : Int))]) (rest := []) hc k_X1_countSort q_820 (c_X1_countSort hk8) hP hS (WX_3 a g (em S5)) rfl rfl rfl hl (Nat.le_of_ble_eq_true rfl) dX8_many_133 (Nat.le_of_ble_eq_true rfl) (Nat.le_of_ble_eq_true rfl) rfl (fun H locs hP hS => ?_)
        obtain rfl := Option.some.inj h
        exact hr _ _ _ _ dX8_many_136 hP hS
      replace h := if_no hs6 h
      by_cases hs7 : v1 = 7
      · replace h := if_yes hs7 h
        refine lv_tableIn (off := 115) (tgt := 137) hx hb dX8_many_22 (by rw [o32 h1]; exact fun h9 => hsw (Or.inl h9)) (by rw [o32 h1]; exact fun h9 => hsw (Or.inr h9)) (by rw [o32 h1, hs7]; rfl) (by decide) ?_
        refine lv_aload_n hx hb dX8_many_137 rfl (lv_at hl 0 rfl) ?_
        refine gfWX_HiddenEdges_edges hc hP q_23 dX8_many_138 ?_
        refine lv_iconst (v := Int32.ofInt (3 : Int)) hx hb dX8_many_141 (by decide) ?_
        obtain ⟨S10, x12, hk11, h⟩ := ob2_at h
        refine cl_Vi (As := [.int (Int32.ofInt (3 : Int))]) (rest := []) hc k_X1_countSort q_820 (c_X1_countSort hk11) hP hS (WX_3 a g (em S5)) rfl rfl rfl hl (Nat.le_of_ble_eq_true rfl) dX8_many_142 (Nat.le_of_ble_eq_true rfl) (Nat.le_of_ble_eq_true rfl) rfl (fun H locs hP hS => ?_)
        obtain rfl := Option.some.inj h
        exact hr _ _ _ _ dX8_many_145 hP hS
      replace h := if_no hs7 h
      by_cases hs8 : v1 = 8
      · replace h := if_yes hs8 h
        refine lv_tableIn (off := 124) (tgt := 146) hx hb dX8_many_22 (by rw [o32 h1]; exact fun h9 => hsw (Or.inl h9)) (by rw [o32 h1]; exact fun h9 => hsw (Or.inr h9)) (by rw [o32 h1, hs8]; rfl) (by decide) ?_
        refine lv_aload_n hx hb dX8_many_146 rfl (lv_at hl 0 rfl) ?_
        refine gfWX_HiddenEdges_strokes hc hP q_35 dX8_many_147 ?_
        refine gzWX_Strokes_count hc hP q_815 dX8_many_150 ?_
        obtain rfl := Option.some.inj h
        exact hr _ _ _ _ dX8_many_153 hP hS
      replace h := if_no hs8 h
      by_cases hs9 : v1 = 9
      · replace h := if_yes hs9 h
        refine lv_tableIn (off := 132) (tgt := 154) hx hb dX8_many_22 (by rw [o32 h1]; exact fun h9 => hsw (Or.inl h9)) (by rw [o32 h1]; exact fun h9 => hsw (Or.inr h9)) (by rw [o32 h1, hs9]; rfl) (by decide) ?_
        refine lv_aload_n hx hb dX8_many_154 rfl (lv_at hl 0 rfl) ?_
        refine gfWX_HiddenEdges_sight hc hP q_19 dX8_many_155 ?_
        obtain ⟨S13, x15, hk14, h⟩ := ob2_at h
        refine cl_Vi (As := []) (rest := []) hc k_X6_countToEye q_824 (c_X6_countToEye hk14) hP hS (WX_2 a g (em S5)) rfl rfl rfl hl (Nat.le_of_ble_eq_true rfl) dX8_many_158 (Nat.le_of_ble_eq_true rfl) (Nat.le_of_ble_eq_true rfl) rfl (fun H locs hP hS => ?_)
        obtain rfl := Option.some.inj h
        exact hr _ _ _ _ dX8_many_161 hP hS
      replace h := if_no hs9 h
      by_cases hs10 : v1 = 10
      · replace h := if_yes hs10 h
        refine lv_tableIn (off := 140) (tgt := 162) hx hb dX8_many_22 (by rw [o32 h1]; exact fun h9 => hsw (Or.inl h9)) (by rw [o32 h1]; exact fun h9 => hsw (Or.inr h9)) (by rw [o32 h1, hs10]; rfl) (by decide) ?_
        refine lv_aload_n hx hb dX8_many_162 rfl (lv_at hl 0 rfl) ?_
        obtain ⟨S16, x18, hk17, h⟩ := ob2_at h
        refine cl_Vi (As := []) (rest := []) hc k_X8_countMeetings q_828 (c_X8_countMeetings hk17) hP hS (WX_0 a g (em S5)) rfl rfl rfl hl (Nat.le_of_ble_eq_true rfl) dX8_many_163 (Nat.le_of_ble_eq_true rfl) (Nat.le_of_ble_eq_true rfl) rfl (fun H locs hP hS => ?_)
        obtain rfl := Option.some.inj h
        exact hr _ _ _ _ dX8_many_166 hP hS
      replace h := if_no hs10 h
      cases h
    · replace h := if_no hq h
      refine lv_bipush (v := Int32.ofInt (-2 : Int)) hx hb dX8_many_10 (by decide) ?_
      obtain rfl := Option.some.inj h
      exact hr _ _ _ _ dX8_many_12 hP hS
abbrev rm_X8_many : Room := { frames := 6, cells := 0, slots := 0, locals := 157 }
theorem c_X8_many {l : Launch} {D : va_G} {a : Nat → Nat} {g : Nat → ClassId} {S : SZ} {v1 : Int} {Z1 : SZ} {r1 : Int} (h : f_X8_many S v1 = some (Z1, r1)) : MetI l D (tysWX g) (WX a g) E0 yX8_many cX8_many 2 (some .int) rm_X8_many [.ref (a 0), .int (Int32.ofInt v1)] (em S) (em Z1, Int32.ofInt r1) := mk_i (WX_same a g) (by decide) (em Z1, Int32.ofInt r1) (Nat.le_of_ble_eq_true rfl) (fun p e s m args below meth c A Q hc hE hr => t_X8_many (z := (Z1, r1)) hc hr S v1 h)
theorem k_X8_many : CalV RX8 yX8_many cX8_many 2 (some .int) rm_X8_many 1 := ⟨q_809, q_810, q_2, q_811, by decide +kernel, rfl, rfl⟩
end W
