section W
variable {p : Program} {l : Launch} {e : Env} {R : Room} {s : State} {m : MethodId} {args : Array Value} {below : List Frame} {meth : Method} {c : Code} {Q : State → Prop} {D : va_G} {A : Nat → Prop} {a : Nat → Nat} {g : Nat → ClassId}
set_option maxHeartbeats 4000000 in
set_option maxRecDepth 100000 in
theorem t_X9_isFace {z : SZ × Int} (hc : Cx p R s m args c D (tysWM g) A (WM a g) cX9_isFace 2 RX9 1 22) (hr : Rtz p l e R s m args below meth c Q D A (WM a g) cX9_isFace (em z.1, Int32.ofInt z.2)) : ∀ (S : SZ) (v1 : Int), f_X9_isFace S v1 = some z → Go p l e R s m args below meth c Q D A (WM a g) 2 (em S) 0 [(0, .ref (a 0)), (1, .int (Int32.ofInt v1))] [] := by
  obtain ⟨⟨hx, hb, hml, hown, hts⟩, -, -, -, hnf, hno⟩ := id hc
  intro S v1 h H locs ls hP hS hl
  rw [f_X9_isFace] at h
  replace hl : lv_has ls 2 [(0, .ref (a 0)), (1, .int (Int32.ofInt v1))] := hl
  refine lv_iload_n hx hb dX9_isFace_0 rfl (lv_at hl 1 rfl) ?_
  refine lv_iconst (v := Int32.ofInt (0 : Int)) hx hb dX9_isFace_1 (by decide) ?_
  refine lv_aload_n hx hb dX9_isFace_2 rfl (lv_at hl 0 rfl) ?_
  refine gzWM_HiddenEdgesModel_faces hc hP q_207 dX9_isFace_3 ?_
  refine lv_iconst (v := Int32.ofInt (1 : Int)) hx hb dX9_isFace_6 (by decide) ?_
  refine z_isub hx hb dX9_isFace_7 ?_
  obtain ⟨S1, x3, hk2, h⟩ := ob2_at h
  refine cl_Si (As := [.int (Int32.ofInt v1), .int (Int32.ofInt (0 : Int)), .int (Int32.ofInt ((zi S 1) - (1 : Int)))]) (rest := []) hc k_X9_within q_158 (c_X9_within hk2) hP hS rfl hl (Nat.le_of_ble_eq_true rfl) dX9_isFace_8 (Nat.le_of_ble_eq_true rfl) (Nat.le_of_ble_eq_true rfl) rfl (fun H locs hP hS => ?_)
  obtain ⟨h4, h⟩ := chk_at h
  obtain rfl := Option.some.inj h
  exact hr (bit_of h4) _ _ _ _ dX9_isFace_11 hP hS
abbrev rm_X9_isFace : Room := { frames := 1, cells := 0, slots := 0, locals := 22 }
theorem c_X9_isFace {l : Launch} {D : va_G} {a : Nat → Nat} {g : Nat → ClassId} {S : SZ} {v1 : Int} {Z1 : SZ} {r1 : Int} (h : f_X9_isFace S v1 = some (Z1, r1)) : MetI l D (tysWM g) (WM a g) E0 yX9_isFace cX9_isFace 2 (some .boolean) rm_X9_isFace [.ref (a 0), .int (Int32.ofInt v1)] (em S) (em Z1, Int32.ofInt r1) := mk_z (WM_same a g) (by decide) (em Z1, Int32.ofInt r1) (Nat.le_of_ble_eq_true rfl) (fun p e s m args below meth c A Q hc hE hr => t_X9_isFace (z := (Z1, r1)) hc hr S v1 h)
theorem k_X9_isFace : CalV RX9 yX9_isFace cX9_isFace 2 (some .boolean) rm_X9_isFace 1 := ⟨q_646, q_647, q_5, q_648, by decide +kernel, rfl, rfl⟩
set_option maxHeartbeats 4000000 in
set_option maxRecDepth 100000 in
theorem t_X9_ofFace {z : SZ × Int} (hc : Cx p R s m args c D (tysWM g) A (WM a g) cX9_ofFace 5 RX9 3 79) (hr : Rti p l e R s m args below meth c Q D A (WM a g) cX9_ofFace (em z.1, Int32.ofInt z.2)) : ∀ (S : SZ) (v1 : Int) (v2 : Int), f_X9_ofFace S v1 v2 = some z → Go p l e R s m args below meth c Q D A (WM a g) 5 (em S) 0 [(0, .ref (a 0)), (1, .int (Int32.ofInt v1)), (2, .int (Int32.ofInt v2))] [] := by
  obtain ⟨⟨hx, hb, hml, hown, hts⟩, -, -, -, hnf, hno⟩ := id hc
  intro S v1 v2 h H locs ls hP hS hl
  rw [f_X9_ofFace] at h
  replace hl : lv_has ls 5 [(0, .ref (a 0)), (1, .int (Int32.ofInt v1)), (2, .int (Int32.ofInt v2))] := hl
  refine lv_aload_n hx hb dX9_ofFace_0 rfl (lv_at hl 0 rfl) ?_
  refine lv_iload_n hx hb dX9_ofFace_1 rfl (lv_at hl 1 rfl) ?_
  obtain ⟨S1, x3, hk2, h⟩ := ob2_at h
  refine cl_Vi (As := [.int (Int32.ofInt v1)]) (rest := []) hc k_X9_isFace q_645 (c_X9_isFace hk2) hP hS (WM_0 a g (em S)) rfl rfl rfl hl (Nat.le_of_ble_eq_true rfl) dX9_ofFace_2 (Nat.le_of_ble_eq_true rfl) (Nat.le_of_ble_eq_true rfl) rfl (fun H locs hP hS => ?_)
  obtain ⟨h4, h⟩ := chk_at h
  refine z_if_ne (tgt := 10) hx hb h4 dX9_ofFace_5 (by decide) (fun hq => ?_) (fun hq => ?_)
  · replace h := if_no hq h
    refine lv_iload_n hx hb dX9_ofFace_10 rfl (lv_at hl 2 rfl) ?_
    refine lv_iconst (v := Int32.ofInt (0 : Int)) hx hb dX9_ofFace_11 (by decide) ?_
    refine lv_iconst (v := Int32.ofInt (2 : Int)) hx hb dX9_ofFace_12 (by decide) ?_
    obtain ⟨S5, x7, hk6, h⟩ := ob2_at h
    refine cl_Si (As := [.int (Int32.ofInt v2), .int (Int32.ofInt (0 : Int)), .int (Int32.ofInt (2 : Int))]) (rest := []) hc k_X9_within q_158 (c_X9_within hk6) hP hS rfl hl (Nat.le_of_ble_eq_true rfl) dX9_ofFace_13 (Nat.le_of_ble_eq_true rfl) (Nat.le_of_ble_eq_true rfl) rfl (fun H locs hP hS => ?_)
    obtain ⟨h8, h⟩ := chk_at h
    refine z_if_eq (tgt := 30) hx hb h8 dX9_ofFace_16 (by decide) (fun hq => ?_) (fun hq => ?_)
    · replace h := if_yes hq h
      refine lv_aload_n hx hb dX9_ofFace_30 rfl (lv_at hl 0 rfl) ?_
      refine lv_iload_n hx hb dX9_ofFace_31 rfl (lv_at hl 1 rfl) ?_
      obtain ⟨S9, x11, hk10, h⟩ := ob2_at h
      refine cl_Vl (As := [.int (Int32.ofInt v1)]) (rest := []) hc k_X9_turnOf q_571 (c_X9_turnOf hk10) hP hS (WM_0 a g (em S5)) rfl rfl rfl hl (Nat.le_of_ble_eq_true rfl) dX9_ofFace_32 (Nat.le_of_ble_eq_true rfl) (Nat.le_of_ble_eq_true rfl) rfl (fun H locs hP hS => ?_)
      refine lv_lstore_n (lv' := [(3, .long (Int64.ofInt x11)), (0, .ref (a 0)), (1, .int (Int32.ofInt v1)), (2, .int (Int32.ofInt v2))]) hx hb dX9_ofFace_35 rfl hl (by decide) rfl (fun ls hl => ?_)
      refine lv_iload_n hx hb dX9_ofFace_36 rfl (lv_at hl 3 rfl) ?_
      refine lv_iconst (v := Int32.ofInt (3 : Int)) hx hb dX9_ofFace_37 (by decide) ?_
      obtain ⟨h12, h⟩ := chk_at h
      refine z_icmp_ne (tgt := 63) hx hb h12 (by decide) dX9_ofFace_38 (by decide) (fun hq => ?_) (fun hq => ?_)
      · replace h := if_no hq h
        refine lv_iload_n hx hb dX9_ofFace_63 rfl (lv_at hl 3 rfl) ?_
        refine lv_iconst (v := Int32.ofInt (4 : Int)) hx hb dX9_ofFace_64 (by decide) ?_
        refine z_icmp_ne (tgt := 84) hx hb h12 (by decide) dX9_ofFace_65 (by decide) (fun hq => ?_) (fun hq => ?_)
        · replace h := if_no hq h
          refine lv_bipush (v := Int32.ofInt (-2 : Int)) hx hb dX9_ofFace_84 (by decide) ?_
          obtain rfl := Option.some.inj h
          exact hr _ _ _ _ dX9_ofFace_86 hP hS
        · replace h := if_yes hq h
          refine lv_lload_n hx hb dX9_ofFace_68 rfl (lv_at hl 0 rfl) ?_
          refine lv_lconst (v := Int64.ofInt (0 : Int)) hx hb dX9_ofFace_69 (by decide) ?_
          refine W.lcmp hx hb dX9_ofFace_70 ?_
          obtain ⟨h13, h⟩ := chk_at h
          refine zc_if_ge (tgt := 79) hx hb h13 (by decide) dX9_ofFace_71 (by decide) (fun hq => ?_) (fun hq => ?_)
          · replace h := if_yes hq h
            refine lv_lload_n hx hb dX9_ofFace_79 rfl (lv_at hl 0 rfl) ?_
            refine z_l2i hx hb dX9_ofFace_80 ?_
            refine lv_goto (tgt := 86) hx hb dX9_ofFace_81 (by decide) ?_
            obtain rfl := Option.some.inj h
            exact hr _ _ _ _ dX9_ofFace_86 hP hS
          · replace h := if_no hq h
            refine lv_lload_n hx hb dX9_ofFace_74 rfl (lv_at hl 0 rfl) ?_
            refine z_lneg hx hb dX9_ofFace_75 ?_
            refine lv_goto (tgt := 80) hx hb dX9_ofFace_76 (by decide) ?_
            refine z_l2i hx hb dX9_ofFace_80 ?_
            refine lv_goto (tgt := 86) hx hb dX9_ofFace_81 (by decide) ?_
            obtain rfl := Option.some.inj h
            exact hr _ _ _ _ dX9_ofFace_86 hP hS
      · replace h := if_yes hq h
        refine lv_lload_n hx hb dX9_ofFace_41 rfl (lv_at hl 0 rfl) ?_
        refine lv_lconst (v := Int64.ofInt (0 : Int)) hx hb dX9_ofFace_42 (by decide) ?_
        refine W.lcmp hx hb dX9_ofFace_43 ?_
        obtain ⟨h14, h⟩ := chk_at h
        refine zc_if_le (tgt := 51) hx hb h14 (by decide) dX9_ofFace_44 (by decide) (fun hq => ?_) (fun hq => ?_)
        · replace h := if_yes hq h
          refine lv_lload_n hx hb dX9_ofFace_51 rfl (lv_at hl 0 rfl) ?_
          refine lv_lconst (v := Int64.ofInt (0 : Int)) hx hb dX9_ofFace_52 (by decide) ?_
          refine W.lcmp hx hb dX9_ofFace_53 ?_
          refine zc_if_ge (tgt := 61) hx hb h14 (by decide) dX9_ofFace_54 (by decide) (fun hq => ?_) (fun hq => ?_)
          · replace h := if_yes hq h
            refine lv_iconst (v := Int32.ofInt (0 : Int)) hx hb dX9_ofFace_61 (by decide) ?_
            obtain rfl := Option.some.inj h
            exact hr _ _ _ _ dX9_ofFace_62 hP hS
          · replace h := if_no hq h
            refine lv_iconst (v := Int32.ofInt (2 : Int)) hx hb dX9_ofFace_57 (by decide) ?_
            refine lv_goto (tgt := 62) hx hb dX9_ofFace_58 (by decide) ?_
            obtain rfl := Option.some.inj h
            exact hr _ _ _ _ dX9_ofFace_62 hP hS
        · replace h := if_no hq h
          refine lv_iconst (v := Int32.ofInt (1 : Int)) hx hb dX9_ofFace_47 (by decide) ?_
          refine lv_goto (tgt := 62) hx hb dX9_ofFace_48 (by decide) ?_
          obtain rfl := Option.some.inj h
          exact hr _ _ _ _ dX9_ofFace_62 hP hS
    · replace h := if_no hq h
      refine lv_aload_n hx hb dX9_ofFace_19 rfl (lv_at hl 0 rfl) ?_
      refine gfWM_HiddenEdgesModel_cornerOf hc hP q_102 dX9_ofFace_20 ?_
      refine lv_iconst (v := Int32.ofInt (3 : Int)) hx hb dX9_ofFace_23 (by decide) ?_
      refine lv_iload_n hx hb dX9_ofFace_24 rfl (lv_at hl 1 rfl) ?_
      refine z_imul hx hb dX9_ofFace_25 ?_
      refine lv_iload_n hx hb dX9_ofFace_26 rfl (lv_at hl 2 rfl) ?_
      refine z_iadd hx hb dX9_ofFace_27 ?_
      obtain ⟨h15, h⟩ := chk_at h
      refine azWM_HiddenEdgesModel_cornerOf hc hP h15 dX9_ofFace_28 ?_
      obtain rfl := Option.some.inj h
      exact hr _ _ _ _ dX9_ofFace_29 hP hS
  · replace h := if_yes hq h
    refine lv_iconst (v := Int32.ofInt (-1 : Int)) hx hb dX9_ofFace_8 (by decide) ?_
    obtain rfl := Option.some.inj h
    exact hr _ _ _ _ dX9_ofFace_9 hP hS
abbrev rm_X9_ofFace : Room := { frames := 3, cells := 0, slots := 0, locals := 79 }
theorem c_X9_ofFace {l : Launch} {D : va_G} {a : Nat → Nat} {g : Nat → ClassId} {S : SZ} {v1 : Int} {v2 : Int} {Z1 : SZ} {r1 : Int} (h : f_X9_ofFace S v1 v2 = some (Z1, r1)) : MetI l D (tysWM g) (WM a g) E0 yX9_ofFace cX9_ofFace 5 (some .int) rm_X9_ofFace [.ref (a 0), .int (Int32.ofInt v1), .int (Int32.ofInt v2)] (em S) (em Z1, Int32.ofInt r1) := mk_i (WM_same a g) (by decide) (em Z1, Int32.ofInt r1) (Nat.le_of_ble_eq_true rfl) (fun p e s m args below meth c A Q hc hE hr => t_X9_ofFace (z := (Z1, r1)) hc hr S v1 v2 h)
theorem k_X9_ofFace : CalV RX9 yX9_ofFace cX9_ofFace 5 (some .int) rm_X9_ofFace 2 := ⟨q_642, q_643, q_5, q_644, by decide +kernel, rfl, rfl⟩
set_option maxHeartbeats 4000000 in
set_option maxRecDepth 100000 in
theorem t_X9_isEdge {z : SZ × Int} (hc : Cx p R s m args c D (tysWM g) A (WM a g) cX9_isEdge 2 RX9 8 206) (hr : Rtz p l e R s m args below meth c Q D A (WM a g) cX9_isEdge (em z.1, Int32.ofInt z.2)) : ∀ (S : SZ) (v1 : Int), f_X9_isEdge S v1 = some z → Go p l e R s m args below meth c Q D A (WM a g) 2 (em S) 0 [(0, .ref (a 0)), (1, .int (Int32.ofInt v1))] [] := by
  obtain ⟨⟨hx, hb, hml, hown, hts⟩, -, -, -, hnf, hno⟩ := id hc
  intro S v1 h H locs ls hP hS hl
  rw [f_X9_isEdge] at h
  replace hl : lv_has ls 2 [(0, .ref (a 0)), (1, .int (Int32.ofInt v1))] := hl
  refine lv_aload_n hx hb dX9_isEdge_0 rfl (lv_at hl 0 rfl) ?_
  obtain ⟨S1, hk2, h⟩ := ob1_at h
  refine cl_Vv (As := []) (rest := []) hc k_X9_findAll q_540 (c_X9_findAll hk2) hP hS (WM_0 a g (em S)) rfl rfl rfl hl (Nat.le_of_ble_eq_true rfl) dX9_isEdge_1 (Nat.le_of_ble_eq_true rfl) (Nat.le_of_ble_eq_true rfl) rfl (fun H locs hP hS => ?_)
  refine lv_iload_n hx hb dX9_isEdge_4 rfl (lv_at hl 1 rfl) ?_
  refine lv_iconst (v := Int32.ofInt (0 : Int)) hx hb dX9_isEdge_5 (by decide) ?_
  refine lv_aload_n hx hb dX9_isEdge_6 rfl (lv_at hl 0 rfl) ?_
  refine gzWM_HiddenEdgesModel_edges hc hP q_539 dX9_isEdge_7 ?_
  refine lv_iconst (v := Int32.ofInt (1 : Int)) hx hb dX9_isEdge_10 (by decide) ?_
  refine z_isub hx hb dX9_isEdge_11 ?_
  obtain ⟨S3, x5, hk4, h⟩ := ob2_at h
  refine cl_Si (As := [.int (Int32.ofInt v1), .int (Int32.ofInt (0 : Int)), .int (Int32.ofInt ((zi S1 7) - (1 : Int)))]) (rest := []) hc k_X9_within q_158 (c_X9_within hk4) hP hS rfl hl (Nat.le_of_ble_eq_true rfl) dX9_isEdge_12 (Nat.le_of_ble_eq_true rfl) (Nat.le_of_ble_eq_true rfl) rfl (fun H locs hP hS => ?_)
  obtain ⟨h6, h⟩ := chk_at h
  obtain rfl := Option.some.inj h
  exact hr (bit_of h6) _ _ _ _ dX9_isEdge_15 hP hS
abbrev rm_X9_isEdge : Room := { frames := 8, cells := 0, slots := 0, locals := 206 }
theorem c_X9_isEdge {l : Launch} {D : va_G} {a : Nat → Nat} {g : Nat → ClassId} {S : SZ} {v1 : Int} {Z1 : SZ} {r1 : Int} (h : f_X9_isEdge S v1 = some (Z1, r1)) : MetI l D (tysWM g) (WM a g) E0 yX9_isEdge cX9_isEdge 2 (some .boolean) rm_X9_isEdge [.ref (a 0), .int (Int32.ofInt v1)] (em S) (em Z1, Int32.ofInt r1) := mk_z (WM_same a g) (by decide) (em Z1, Int32.ofInt r1) (Nat.le_of_ble_eq_true rfl) (fun p e s m args below meth c A Q hc hE hr => t_X9_isEdge (z := (Z1, r1)) hc hr S v1 h)
theorem k_X9_isEdge : CalV RX9 yX9_isEdge cX9_isEdge 2 (some .boolean) rm_X9_isEdge 1 := ⟨q_670, q_671, q_5, q_672, by decide +kernel, rfl, rfl⟩
set_option maxHeartbeats 4000000 in
set_option maxRecDepth 100000 in
theorem t_X9_seenOf_p4 {z : SZ × Int} (hc : Cx p R s m args c D (tysWM g) A (WM a g) cX9_seenOf 4 RX9 1 22) (hr : Rti p l e R s m args below meth c Q D A (WM a g) cX9_seenOf (em z.1, Int32.ofInt z.2)) : ∀ (fu : Nat) (S : SZ) (v1 : Int) (v2 : Int) (v3 : Int), f_X9_seenOf_p4 fu S v1 v2 v3 = some z → Go p l e R s m args below meth c Q D A (WM a g) 4 (em S) 4 [(0, .ref (a 0)), (1, .int (Int32.ofInt v1)), (2, .int (Int32.ofInt v2)), (3, .int (Int32.ofInt v3))] [] := by
  obtain ⟨⟨hx, hb, hml, hown, hts⟩, -, -, -, hnf, hno⟩ := id hc
  intro fu
  induction fu with
  | zero =>
    intro S v1 v2 v3 h
    rw [f_X9_seenOf_p4] at h
    cases h
  | succ fu ih =>
    intro S v1 v2 v3 h H locs ls hP hS hl
    rw [f_X9_seenOf_p4] at h
    refine lv_iload_n hx hb dX9_seenOf_4 rfl (lv_at hl 3 rfl) ?_
    refine lv_aload_n hx hb dX9_seenOf_5 rfl (lv_at hl 0 rfl) ?_
    refine lv_iload_n hx hb dX9_seenOf_6 rfl (lv_at hl 1 rfl) ?_
    obtain ⟨S1, x3, hk2, h⟩ := ob2_at h
    refine cl_Vi (As := [.int (Int32.ofInt v1)]) (rest := [.int (Int32.ofInt v3)]) hc k_X9_piecesOf q_600 (c_X9_piecesOf hk2) hP hS (WM_0 a g (em S)) rfl rfl rfl hl (Nat.le_of_ble_eq_true rfl) dX9_seenOf_7 (Nat.le_of_ble_eq_true rfl) (Nat.le_of_ble_eq_true rfl) rfl (fun H locs hP hS => ?_)
    obtain ⟨h4, h⟩ := chk_at h
    obtain ⟨h5, h⟩ := chk_at h
    refine z_icmp_ge (tgt := 36) hx hb h4 h5 dX9_seenOf_10 (by decide) (fun hq => ?_) (fun hq => ?_)
    · replace h := if_yes hq h
      refine lv_iload_n hx hb dX9_seenOf_36 rfl (lv_at hl 2 rfl) ?_
      obtain rfl := Option.some.inj h
      exact hr _ _ _ _ dX9_seenOf_37 hP hS
    · replace h := if_no hq h
      refine lv_iload_n hx hb dX9_seenOf_13 rfl (lv_at hl 2 rfl) ?_
      refine lv_aload_n hx hb dX9_seenOf_14 rfl (lv_at hl 0 rfl) ?_
      refine lv_iload_n hx hb dX9_seenOf_15 rfl (lv_at hl 1 rfl) ?_
      refine lv_iload_n hx hb dX9_seenOf_16 rfl (lv_at hl 3 rfl) ?_
      obtain ⟨S6, x8, hk7, h⟩ := ob2_at h
      refine cl_Vi (As := [.int (Int32.ofInt v1), .int (Int32.ofInt v3)]) (rest := [.int (Int32.ofInt v2)]) hc k_X9_isSeen q_608 (c_X9_isSeen hk7) hP hS (WM_0 a g (em S1)) rfl rfl rfl hl (Nat.le_of_ble_eq_true rfl) dX9_seenOf_17 (Nat.le_of_ble_eq_true rfl) (Nat.le_of_ble_eq_true rfl) rfl (fun H locs hP hS => ?_)
      obtain ⟨h9, h⟩ := chk_at h
      refine z_if_eq (tgt := 27) hx hb h9 dX9_seenOf_20 (by decide) (fun hq => ?_) (fun hq => ?_)
      · replace h := if_yes hq h
        refine lv_iconst (v := Int32.ofInt (0 : Int)) hx hb dX9_seenOf_27 (by decide) ?_
        refine z_iadd hx hb dX9_seenOf_28 ?_
        refine z_topi (fun x10 ex10 => ?_)
        replace h := olet_at ex10 h
        refine lv_istore_n (lv' := [(2, .int (Int32.ofInt x10)), (0, .ref (a 0)), (1, .int (Int32.ofInt v1)), (3, .int (Int32.ofInt v3))]) hx hb dX9_seenOf_29 rfl hl (by decide) rfl (fun ls hl => ?_)
        obtain ⟨x11, ex11⟩ : ∃ y : Int, y = v3 + (1 : Int) := ⟨_, rfl⟩
        replace h := olet_at ex11 h
        refine lv_iinc (v := Int32.ofInt x11) (lv' := [(3, .int (Int32.ofInt x11)), (2, .int (Int32.ofInt x10)), (0, .ref (a 0)), (1, .int (Int32.ofInt v1))]) hx hb dX9_seenOf_30 hl (k := 3) rfl (by rw [ex11, Int32.ofInt_add]) (by decide) rfl (fun ls hl => ?_)
        refine lv_goto (tgt := 4) hx hb dX9_seenOf_33 (by decide) ?_
        exact ih S6 v1 x10 x11 h H locs ls hP hS (lv_sub hl [2, 3, 1, 0] rfl)
      · replace h := if_no hq h
        refine lv_iconst (v := Int32.ofInt (1 : Int)) hx hb dX9_seenOf_23 (by decide) ?_
        refine lv_goto (tgt := 28) hx hb dX9_seenOf_24 (by decide) ?_
        refine z_iadd hx hb dX9_seenOf_28 ?_
        refine z_topi (fun x12 ex12 => ?_)
        replace h := olet_at ex12 h
        refine lv_istore_n (lv' := [(2, .int (Int32.ofInt x12)), (0, .ref (a 0)), (1, .int (Int32.ofInt v1)), (3, .int (Int32.ofInt v3))]) hx hb dX9_seenOf_29 rfl hl (by decide) rfl (fun ls hl => ?_)
        obtain ⟨x13, ex13⟩ : ∃ y : Int, y = v3 + (1 : Int) := ⟨_, rfl⟩
        replace h := olet_at ex13 h
        refine lv_iinc (v := Int32.ofInt x13) (lv' := [(3, .int (Int32.ofInt x13)), (2, .int (Int32.ofInt x12)), (0, .ref (a 0)), (1, .int (Int32.ofInt v1))]) hx hb dX9_seenOf_30 hl (k := 3) rfl (by rw [ex13, Int32.ofInt_add]) (by decide) rfl (fun ls hl => ?_)
        refine lv_goto (tgt := 4) hx hb dX9_seenOf_33 (by decide) ?_
        exact ih S6 v1 x12 x13 h H locs ls hP hS (lv_sub hl [2, 3, 1, 0] rfl)
set_option maxHeartbeats 4000000 in
set_option maxRecDepth 100000 in
theorem t_X9_seenOf {z : SZ × Int} (hc : Cx p R s m args c D (tysWM g) A (WM a g) cX9_seenOf 4 RX9 1 22) (hr : Rti p l e R s m args below meth c Q D A (WM a g) cX9_seenOf (em z.1, Int32.ofInt z.2)) : ∀ (S : SZ) (v1 : Int), f_X9_seenOf S v1 = some z → Go p l e R s m args below meth c Q D A (WM a g) 4 (em S) 0 [(0, .ref (a 0)), (1, .int (Int32.ofInt v1))] [] := by
  obtain ⟨⟨hx, hb, hml, hown, hts⟩, -, -, -, hnf, hno⟩ := id hc
  intro S v1 h H locs ls hP hS hl
  rw [f_X9_seenOf] at h
  replace hl : lv_has ls 4 [(0, .ref (a 0)), (1, .int (Int32.ofInt v1))] := hl
  refine lv_iconst (v := Int32.ofInt (0 : Int)) hx hb dX9_seenOf_0 (by decide) ?_
  refine lv_istore_n (lv' := [(2, .int (Int32.ofInt (0 : Int))), (0, .ref (a 0)), (1, .int (Int32.ofInt v1))]) hx hb dX9_seenOf_1 rfl hl (by decide) rfl (fun ls hl => ?_)
  refine lv_iconst (v := Int32.ofInt (0 : Int)) hx hb dX9_seenOf_2 (by decide) ?_
  refine lv_istore_n (lv' := [(3, .int (Int32.ofInt (0 : Int))), (2, .int (Int32.ofInt (0 : Int))), (0, .ref (a 0)), (1, .int (Int32.ofInt v1))]) hx hb dX9_seenOf_3 rfl hl (by decide) rfl (fun ls hl => ?_)
  exact t_X9_seenOf_p4 hc hr FU S v1 (0 : Int) (0 : Int) h H locs ls hP hS (lv_sub hl [2, 3, 1, 0] rfl)
abbrev rm_X9_seenOf : Room := { frames := 1, cells := 0, slots := 0, locals := 22 }
theorem c_X9_seenOf {l : Launch} {D : va_G} {a : Nat → Nat} {g : Nat → ClassId} {S : SZ} {v1 : Int} {Z1 : SZ} {r1 : Int} (h : f_X9_seenOf S v1 = some (Z1, r1)) : MetI l D (tysWM g) (WM a g) E0 yX9_seenOf cX9_seenOf 4 (some .int) rm_X9_seenOf [.ref (a 0), .int (Int32.ofInt v1)] (em S) (em Z1, Int32.ofInt r1) := mk_i (WM_same a g) (by decide) (em Z1, Int32.ofInt r1) (Nat.le_of_ble_eq_true rfl) (fun p e s m args below meth c A Q hc hE hr => t_X9_seenOf (z := (Z1, r1)) hc hr S v1 h)
theorem k_X9_seenOf : CalV RX9 yX9_seenOf cX9_seenOf 4 (some .int) rm_X9_seenOf 1 := ⟨q_674, q_675, q_5, q_676, by decide +kernel, rfl, rfl⟩
set_option maxHeartbeats 4000000 in
set_option maxRecDepth 100000 in
theorem t_X9_ofEdge {z : SZ × Int} (hc : Cx p R s m args c D (tysWM g) A (WM a g) cX9_ofEdge 3 RX9 9 227) (hr : Rti p l e R s m args below meth c Q D A (WM a g) cX9_ofEdge (em z.1, Int32.ofInt z.2)) : ∀ (S : SZ) (v1 : Int) (v2 : Int), f_X9_ofEdge S v1 v2 = some z → Go p l e R s m args below meth c Q D A (WM a g) 3 (em S) 0 [(0, .ref (a 0)), (1, .int (Int32.ofInt v1)), (2, .int (Int32.ofInt v2))] [] := by
  obtain ⟨⟨hx, hb, hml, hown, hts⟩, -, -, -, hnf, hno⟩ := id hc
  intro S v1 v2 h H locs ls hP hS hl
  rw [f_X9_ofEdge] at h
  replace hl : lv_has ls 3 [(0, .ref (a 0)), (1, .int (Int32.ofInt v1)), (2, .int (Int32.ofInt v2))] := hl
  refine lv_aload_n hx hb dX9_ofEdge_0 rfl (lv_at hl 0 rfl) ?_
  refine lv_iload_n hx hb dX9_ofEdge_1 rfl (lv_at hl 1 rfl) ?_
  obtain ⟨S1, x3, hk2, h⟩ := ob2_at h
  refine cl_Vi (As := [.int (Int32.ofInt v1)]) (rest := []) hc k_X9_isEdge q_669 (c_X9_isEdge hk2) hP hS (WM_0 a g (em S)) rfl rfl rfl hl (Nat.le_of_ble_eq_true rfl) dX9_ofEdge_2 (Nat.le_of_ble_eq_true rfl) (Nat.le_of_ble_eq_true rfl) rfl (fun H locs hP hS => ?_)
  obtain ⟨h4, h⟩ := chk_at h
  refine z_if_ne (tgt := 10) hx hb h4 dX9_ofEdge_5 (by decide) (fun hq => ?_) (fun hq => ?_)
  · replace h := if_no hq h
    refine lv_iload_n hx hb dX9_ofEdge_10 rfl (lv_at hl 2 rfl) ?_
    obtain ⟨h5, h⟩ := chk_at h
    by_cases hsw : v2 < 0 ∨ 6 < v2
    · replace h := if_yes hsw h
      refine lv_tableOut (tgt := 117) hx hb dX9_ofEdge_11 (by rw [o32 h5]; exact hsw) (by decide) ?_
      refine lv_bipush (v := Int32.ofInt (-2 : Int)) hx hb dX9_ofEdge_117 (by decide) ?_
      obtain rfl := Option.some.inj h
      exact hr _ _ _ _ dX9_ofEdge_119 hP hS
    replace h := if_no hsw h
    by_cases hs0 : v2 = 0
    · replace h := if_yes hs0 h
      refine lv_tableIn (off := 41) (tgt := 52) hx hb dX9_ofEdge_11 (by rw [o32 h5]; exact fun h9 => hsw (Or.inl h9)) (by rw [o32 h5]; exact fun h9 => hsw (Or.inr h9)) (by rw [o32 h5, hs0]; rfl) (by decide) ?_
      refine lv_aload_n hx hb dX9_ofEdge_52 rfl (lv_at hl 0 rfl) ?_
      refine gfWM_HiddenEdgesModel_edgeOne hc hP q_108 dX9_ofEdge_53 ?_
      refine lv_iload_n hx hb dX9_ofEdge_56 rfl (lv_at hl 1 rfl) ?_
      obtain ⟨h6, h⟩ := chk_at h
      refine azWM_HiddenEdgesModel_edgeOne hc hP h6 dX9_ofEdge_57 ?_
      obtain rfl := Option.some.inj h
      exact hr _ _ _ _ dX9_ofEdge_58 hP hS
    replace h := if_no hs0 h
    by_cases hs1 : v2 = 1
    · replace h := if_yes hs1 h
      refine lv_tableIn (off := 48) (tgt := 59) hx hb dX9_ofEdge_11 (by rw [o32 h5]; exact fun h9 => hsw (Or.inl h9)) (by rw [o32 h5]; exact fun h9 => hsw (Or.inr h9)) (by rw [o32 h5, hs1]; rfl) (by decide) ?_
      refine lv_aload_n hx hb dX9_ofEdge_59 rfl (lv_at hl 0 rfl) ?_
      refine gfWM_HiddenEdgesModel_edgeOther hc hP q_109 dX9_ofEdge_60 ?_
      refine lv_iload_n hx hb dX9_ofEdge_63 rfl (lv_at hl 1 rfl) ?_
      obtain ⟨h7, h⟩ := chk_at h
      refine azWM_HiddenEdgesModel_edgeOther hc hP h7 dX9_ofEdge_64 ?_
      obtain rfl := Option.some.inj h
      exact hr _ _ _ _ dX9_ofEdge_65 hP hS
    replace h := if_no hs1 h
    by_cases hs2 : v2 = 2
    · replace h := if_yes hs2 h
      refine lv_tableIn (off := 55) (tgt := 66) hx hb dX9_ofEdge_11 (by rw [o32 h5]; exact fun h9 => hsw (Or.inl h9)) (by rw [o32 h5]; exact fun h9 => hsw (Or.inr h9)) (by rw [o32 h5, hs2]; rfl) (by decide) ?_
      refine lv_aload_n hx hb dX9_ofEdge_66 rfl (lv_at hl 0 rfl) ?_
      refine gfWM_HiddenEdgesModel_facesAt hc hP q_110 dX9_ofEdge_67 ?_
      refine lv_iload_n hx hb dX9_ofEdge_70 rfl (lv_at hl 1 rfl) ?_
      obtain ⟨h8, h⟩ := chk_at h
      refine azWM_HiddenEdgesModel_facesAt hc hP h8 dX9_ofEdge_71 ?_
      obtain rfl := Option.some.inj h
      exact hr _ _ _ _ dX9_ofEdge_72 hP hS
    replace h := if_no hs2 h
    by_cases hs3 : v2 = 3
    · replace h := if_yes hs3 h
      refine lv_tableIn (off := 62) (tgt := 73) hx hb dX9_ofEdge_11 (by rw [o32 h5]; exact fun h9 => hsw (Or.inl h9)) (by rw [o32 h5]; exact fun h9 => hsw (Or.inr h9)) (by rw [o32 h5, hs3]; rfl) (by decide) ?_
      refine lv_aload_n hx hb dX9_ofEdge_73 rfl (lv_at hl 0 rfl) ?_
      refine gfWM_HiddenEdgesModel_sortOf hc hP q_111 dX9_ofEdge_74 ?_
      refine lv_iload_n hx hb dX9_ofEdge_77 rfl (lv_at hl 1 rfl) ?_
      obtain ⟨h9, h⟩ := chk_at h
      refine azWM_HiddenEdgesModel_sortOf hc hP h9 dX9_ofEdge_78 ?_
      obtain rfl := Option.some.inj h
      exact hr _ _ _ _ dX9_ofEdge_79 hP hS
    replace h := if_no hs3 h
    by_cases hs4 : v2 = 4
    · replace h := if_yes hs4 h
      refine lv_tableIn (off := 69) (tgt := 80) hx hb dX9_ofEdge_11 (by rw [o32 h5]; exact fun h9 => hsw (Or.inl h9)) (by rw [o32 h5]; exact fun h9 => hsw (Or.inr h9)) (by rw [o32 h5, hs4]; rfl) (by decide) ?_
      refine lv_aload_n hx hb dX9_ofEdge_80 rfl (lv_at hl 0 rfl) ?_
      refine lv_iload_n hx hb dX9_ofEdge_81 rfl (lv_at hl 1 rfl) ?_
      obtain ⟨S10, x12, hk11, h⟩ := ob2_at h
      refine cl_Vi (As := [.int (Int32.ofInt v1)]) (rest := []) hc k_X9_piecesOf q_600 (c_X9_piecesOf hk11) hP hS (WM_0 a g (em S1)) rfl rfl rfl hl (Nat.le_of_ble_eq_true rfl) dX9_ofEdge_82 (Nat.le_of_ble_eq_true rfl) (Nat.le_of_ble_eq_true rfl) rfl (fun H locs hP hS => ?_)
      obtain rfl := Option.some.inj h
      exact hr _ _ _ _ dX9_ofEdge_85 hP hS
    replace h := if_no hs4 h
    by_cases hs5 : v2 = 5
    · replace h := if_yes hs5 h
      refine lv_tableIn (off := 75) (tgt := 86) hx hb dX9_ofEdge_11 (by rw [o32 h5]; exact fun h9 => hsw (Or.inl h9)) (by rw [o32 h5]; exact fun h9 => hsw (Or.inr h9)) (by rw [o32 h5, hs5]; rfl) (by decide) ?_
      refine lv_aload_n hx hb dX9_ofEdge_86 rfl (lv_at hl 0 rfl) ?_
      refine lv_iload_n hx hb dX9_ofEdge_87 rfl (lv_at hl 1 rfl) ?_
      obtain ⟨S13, x15, hk14, h⟩ := ob2_at h
      refine cl_Vi (As := [.int (Int32.ofInt v1)]) (rest := []) hc k_X9_seenOf q_673 (c_X9_seenOf hk14) hP hS (WM_0 a g (em S1)) rfl rfl rfl hl (Nat.le_of_ble_eq_true rfl) dX9_ofEdge_88 (Nat.le_of_ble_eq_true rfl) (Nat.le_of_ble_eq_true rfl) rfl (fun H locs hP hS => ?_)
      obtain rfl := Option.some.inj h
      exact hr _ _ _ _ dX9_ofEdge_91 hP hS
    replace h := if_no hs5 h
    by_cases hs6 : v2 = 6
    · replace h := if_yes hs6 h
      refine lv_tableIn (off := 81) (tgt := 92) hx hb dX9_ofEdge_11 (by rw [o32 h5]; exact fun h9 => hsw (Or.inl h9)) (by rw [o32 h5]; exact fun h9 => hsw (Or.inr h9)) (by rw [o32 h5, hs6]; rfl) (by decide) ?_
      refine lv_aload_n hx hb dX9_ofEdge_92 rfl (lv_at hl 0 rfl) ?_
      refine lv_aload_n hx hb dX9_ofEdge_93 rfl (lv_at hl 0 rfl) ?_
      refine gfWM_HiddenEdgesModel_edgeOne hc hP q_108 dX9_ofEdge_94 ?_
      refine lv_iload_n hx hb dX9_ofEdge_97 rfl (lv_at hl 1 rfl) ?_
      obtain ⟨h16, h⟩ := chk_at h
      refine azWM_HiddenEdgesModel_edgeOne hc hP h16 dX9_ofEdge_98 ?_
      refine lv_aload_n hx hb dX9_ofEdge_99 rfl (lv_at hl 0 rfl) ?_
      refine gfWM_HiddenEdgesModel_edgeOther hc hP q_109 dX9_ofEdge_100 ?_
      refine lv_iload_n hx hb dX9_ofEdge_103 rfl (lv_at hl 1 rfl) ?_
      refine azWM_HiddenEdgesModel_edgeOther hc hP h16 dX9_ofEdge_104 ?_
      obtain ⟨S17, x19, hk18, h⟩ := ob2_at h
      refine cl_Vi (As := [.int (Int32.ofInt (za S1 8 (v1).toNat)), .int (Int32.ofInt (za S1 9 (v1).toNat))]) (rest := []) hc k_X9_isWire q_247 (c_X9_isWire hk18) hP hS (WM_0 a g (em S1)) rfl rfl rfl hl (Nat.le_of_ble_eq_true rfl) dX9_ofEdge_105 (Nat.le_of_ble_eq_true rfl) (Nat.le_of_ble_eq_true rfl) rfl (fun H locs hP hS => ?_)
      obtain ⟨h20, h⟩ := chk_at h
      refine z_if_eq (tgt := 115) hx hb h20 dX9_ofEdge_108 (by decide) (fun hq => ?_) (fun hq => ?_)
      · replace h := if_yes hq h
        refine lv_iconst (v := Int32.ofInt (0 : Int)) hx hb dX9_ofEdge_115 (by decide) ?_
        obtain rfl := Option.some.inj h
        exact hr _ _ _ _ dX9_ofEdge_116 hP hS
      · replace h := if_no hq h
        refine lv_iconst (v := Int32.ofInt (1 : Int)) hx hb dX9_ofEdge_111 (by decide) ?_
        refine lv_goto (tgt := 116) hx hb dX9_ofEdge_112 (by decide) ?_
        obtain rfl := Option.some.inj h
        exact hr _ _ _ _ dX9_ofEdge_116 hP hS
    replace h := if_no hs6 h
    cases h
  · replace h := if_yes hq h
    refine lv_iconst (v := Int32.ofInt (-1 : Int)) hx hb dX9_ofEdge_8 (by decide) ?_
    obtain rfl := Option.some.inj h
    exact hr _ _ _ _ dX9_ofEdge_9 hP hS
abbrev rm_X9_ofEdge : Room := { frames := 9, cells := 0, slots := 0, locals := 227 }
theorem c_X9_ofEdge {l : Launch} {D : va_G} {a : Nat → Nat} {g : Nat → ClassId} {S : SZ} {v1 : Int} {v2 : Int} {Z1 : SZ} {r1 : Int} (h : f_X9_ofEdge S v1 v2 = some (Z1, r1)) : MetI l D (tysWM g) (WM a g) E0 yX9_ofEdge cX9_ofEdge 3 (some .int) rm_X9_ofEdge [.ref (a 0), .int (Int32.ofInt v1), .int (Int32.ofInt v2)] (em S) (em Z1, Int32.ofInt r1) := mk_i (WM_same a g) (by decide) (em Z1, Int32.ofInt r1) (Nat.le_of_ble_eq_true rfl) (fun p e s m args below meth c A Q hc hE hr => t_X9_ofEdge (z := (Z1, r1)) hc hr S v1 v2 h)
theorem k_X9_ofEdge : CalV RX9 yX9_ofEdge cX9_ofEdge 3 (some .int) rm_X9_ofEdge 2 := ⟨q_666, q_667, q_5, q_668, by decide +kernel, rfl, rfl⟩
set_option maxHeartbeats 4000000 in
set_option maxRecDepth 100000 in
theorem t_X9_edge_p52 {z : SZ × Int} (hc : Cx p R s m args c D (tysWM g) A (WM a g) cX9_edge 4 RX9 8 206) (hr : Rti p l e R s m args below meth c Q D A (WM a g) cX9_edge (em z.1, Int32.ofInt z.2)) {k24 : SZ → Int → Int → Int → Option (SZ × Int)} (K24 : ∀ (S : SZ) (v1 : Int) (v2 : Int) (v3 : Int), k24 S v1 v2 v3 = some z → Go p l e R s m args below meth c Q D A (WM a g) 4 (em S) 24 [(0, .ref (a 0)), (1, .int (Int32.ofInt v1)), (2, .int (Int32.ofInt v2)), (3, .int (Int32.ofInt v3))] []) : ∀ (S : SZ) (v1 : Int) (v2 : Int) (v3 : Int), f_X9_edge_p52 k24 S v1 v2 v3 = some z → Go p l e R s m args below meth c Q D A (WM a g) 4 (em S) 52 [(0, .ref (a 0)), (1, .int (Int32.ofInt v1)), (2, .int (Int32.ofInt v2)), (3, .int (Int32.ofInt v3))] [] := by
  obtain ⟨⟨hx, hb, hml, hown, hts⟩, -, -, -, hnf, hno⟩ := id hc
  intro S v1 v2 v3 h H locs ls hP hS hl
  rw [f_X9_edge_p52] at h
  refine lv_aload_n hx hb dX9_edge_52 rfl (lv_at hl 0 rfl) ?_
  refine gfWM_HiddenEdgesModel_edgeOne hc hP q_108 dX9_edge_53 ?_
  refine lv_iload_n hx hb dX9_edge_56 rfl (lv_at hl 3 rfl) ?_
  obtain ⟨h1, h⟩ := chk_at h
  refine azWM_HiddenEdgesModel_edgeOne hc hP h1 dX9_edge_57 ?_
  refine lv_iload_n hx hb dX9_edge_58 rfl (lv_at hl 2 rfl) ?_
  obtain ⟨h2, h⟩ := chk_at h
  obtain ⟨h3, h⟩ := chk_at h
  refine z_icmp_ne (tgt := 74) hx hb h2 h3 dX9_edge_59 (by decide) (fun hq => ?_) (fun hq => ?_)
  · replace h := if_no hq h
    obtain ⟨x4, ex4⟩ : ∃ y : Int, y = v3 + (1 : Int) := ⟨_, rfl⟩
    replace h := olet_at ex4 h
    refine lv_iinc (v := Int32.ofInt x4) (lv' := [(3, .int (Int32.ofInt x4)), (0, .ref (a 0)), (1, .int (Int32.ofInt v1)), (2, .int (Int32.ofInt v2))]) hx hb dX9_edge_74 hl (k := 3) rfl (by rw [ex4, Int32.ofInt_add]) (by decide) rfl (fun ls hl => ?_)
    refine lv_goto (tgt := 24) hx hb dX9_edge_77 (by decide) ?_
    exact K24 S v1 v2 x4 h H locs ls hP hS (lv_sub hl [1, 2, 3, 0] rfl)
  · replace h := if_yes hq h
    refine lv_aload_n hx hb dX9_edge_62 rfl (lv_at hl 0 rfl) ?_
    refine gfWM_HiddenEdgesModel_edgeOther hc hP q_109 dX9_edge_63 ?_
    refine lv_iload_n hx hb dX9_edge_66 rfl (lv_at hl 3 rfl) ?_
    refine azWM_HiddenEdgesModel_edgeOther hc hP h1 dX9_edge_67 ?_
    refine lv_iload_n hx hb dX9_edge_68 rfl (lv_at hl 1 rfl) ?_
    obtain ⟨h5, h⟩ := chk_at h
    obtain ⟨h6, h⟩ := chk_at h
    refine z_icmp_ne (tgt := 74) hx hb h5 h6 dX9_edge_69 (by decide) (fun hq => ?_) (fun hq => ?_)
    · replace h := if_no hq h
      obtain ⟨x7, ex7⟩ : ∃ y : Int, y = v3 + (1 : Int) := ⟨_, rfl⟩
      replace h := olet_at ex7 h
      refine lv_iinc (v := Int32.ofInt x7) (lv' := [(3, .int (Int32.ofInt x7)), (0, .ref (a 0)), (1, .int (Int32.ofInt v1)), (2, .int (Int32.ofInt v2))]) hx hb dX9_edge_74 hl (k := 3) rfl (by rw [ex7, Int32.ofInt_add]) (by decide) rfl (fun ls hl => ?_)
      refine lv_goto (tgt := 24) hx hb dX9_edge_77 (by decide) ?_
      exact K24 S v1 v2 x7 h H locs ls hP hS (lv_sub hl [1, 2, 3, 0] rfl)
    · replace h := if_yes hq h
      refine lv_iload_n hx hb dX9_edge_72 rfl (lv_at hl 3 rfl) ?_
      obtain rfl := Option.some.inj h
      exact hr _ _ _ _ dX9_edge_73 hP hS
set_option maxHeartbeats 4000000 in
set_option maxRecDepth 100000 in
theorem t_X9_edge_p24 {z : SZ × Int} (hc : Cx p R s m args c D (tysWM g) A (WM a g) cX9_edge 4 RX9 8 206) (hr : Rti p l e R s m args below meth c Q D A (WM a g) cX9_edge (em z.1, Int32.ofInt z.2)) : ∀ (fu : Nat) (S : SZ) (v1 : Int) (v2 : Int) (v3 : Int), f_X9_edge_p24 fu S v1 v2 v3 = some z → Go p l e R s m args below meth c Q D A (WM a g) 4 (em S) 24 [(0, .ref (a 0)), (1, .int (Int32.ofInt v1)), (2, .int (Int32.ofInt v2)), (3, .int (Int32.ofInt v3))] [] := by
  obtain ⟨⟨hx, hb, hml, hown, hts⟩, -, -, -, hnf, hno⟩ := id hc
  intro fu
  induction fu with
  | zero =>
    intro S v1 v2 v3 h
    rw [f_X9_edge_p24] at h
    cases h
  | succ fu ih =>
    intro S v1 v2 v3 h H locs ls hP hS hl
    rw [f_X9_edge_p24] at h
    refine lv_iload_n hx hb dX9_edge_24 rfl (lv_at hl 3 rfl) ?_
    refine lv_aload_n hx hb dX9_edge_25 rfl (lv_at hl 0 rfl) ?_
    refine gzWM_HiddenEdgesModel_edges hc hP q_539 dX9_edge_26 ?_
    obtain ⟨h1, h⟩ := chk_at h
    obtain ⟨h2, h⟩ := chk_at h
    refine z_icmp_ge (tgt := 80) hx hb h1 h2 dX9_edge_29 (by decide) (fun hq => ?_) (fun hq => ?_)
    · replace h := if_yes hq h
      refine lv_bipush (v := Int32.ofInt (-9 : Int)) hx hb dX9_edge_80 (by decide) ?_
      obtain rfl := Option.some.inj h
      exact hr _ _ _ _ dX9_edge_82 hP hS
    · replace h := if_no hq h
      refine lv_aload_n hx hb dX9_edge_32 rfl (lv_at hl 0 rfl) ?_
      refine gfWM_HiddenEdgesModel_edgeOne hc hP q_108 dX9_edge_33 ?_
      refine lv_iload_n hx hb dX9_edge_36 rfl (lv_at hl 3 rfl) ?_
      obtain ⟨h3, h⟩ := chk_at h
      refine azWM_HiddenEdgesModel_edgeOne hc hP h3 dX9_edge_37 ?_
      refine lv_iload_n hx hb dX9_edge_38 rfl (lv_at hl 1 rfl) ?_
      obtain ⟨h4, h⟩ := chk_at h
      obtain ⟨h5, h⟩ := chk_at h
      refine z_icmp_ne (tgt := 52) hx hb h4 h5 dX9_edge_39 (by decide) (fun hq => ?_) (fun hq => ?_)
      · replace h := if_no hq h
        exact t_X9_edge_p52 hc hr ih S v1 v2 v3 h H locs ls hP hS (lv_sub hl [0, 1, 2, 3] rfl)
      · replace h := if_yes hq h
        refine lv_aload_n hx hb dX9_edge_42 rfl (lv_at hl 0 rfl) ?_
        refine gfWM_HiddenEdgesModel_edgeOther hc hP q_109 dX9_edge_43 ?_
        refine lv_iload_n hx hb dX9_edge_46 rfl (lv_at hl 3 rfl) ?_
        refine azWM_HiddenEdgesModel_edgeOther hc hP h3 dX9_edge_47 ?_
        refine lv_iload_n hx hb dX9_edge_48 rfl (lv_at hl 2 rfl) ?_
        obtain ⟨h6, h⟩ := chk_at h
        obtain ⟨h7, h⟩ := chk_at h
        refine z_icmp_eq (tgt := 72) hx hb h6 h7 dX9_edge_49 (by decide) (fun hq => ?_) (fun hq => ?_)
        · replace h := if_yes hq h
          refine lv_iload_n hx hb dX9_edge_72 rfl (lv_at hl 3 rfl) ?_
          obtain rfl := Option.some.inj h
          exact hr _ _ _ _ dX9_edge_73 hP hS
        · replace h := if_no hq h
          exact t_X9_edge_p52 hc hr ih S v1 v2 v3 h H locs ls hP hS (lv_sub hl [0, 1, 2, 3] rfl)
set_option maxHeartbeats 4000000 in
set_option maxRecDepth 100000 in
theorem t_X9_edge {z : SZ × Int} (hc : Cx p R s m args c D (tysWM g) A (WM a g) cX9_edge 4 RX9 8 206) (hr : Rti p l e R s m args below meth c Q D A (WM a g) cX9_edge (em z.1, Int32.ofInt z.2)) : ∀ (S : SZ) (v1 : Int) (v2 : Int), f_X9_edge S v1 v2 = some z → Go p l e R s m args below meth c Q D A (WM a g) 4 (em S) 0 [(0, .ref (a 0)), (1, .int (Int32.ofInt v1)), (2, .int (Int32.ofInt v2))] [] := by
  obtain ⟨⟨hx, hb, hml, hown, hts⟩, -, -, -, hnf, hno⟩ := id hc
  intro S v1 v2 h H locs ls hP hS hl
  rw [f_X9_edge] at h
  replace hl : lv_has ls 4 [(0, .ref (a 0)), (1, .int (Int32.ofInt v1)), (2, .int (Int32.ofInt v2))] := hl
  refine lv_aload_n hx hb dX9_edge_0 rfl (lv_at hl 0 rfl) ?_
  refine lv_iload_n hx hb dX9_edge_1 rfl (lv_at hl 1 rfl) ?_
  obtain ⟨S1, x3, hk2, h⟩ := ob2_at h
  refine cl_Vi (As := [.int (Int32.ofInt v1)]) (rest := []) hc k_X9_isPoint q_208 (c_X9_isPoint hk2) hP hS (WM_0 a g (em S)) rfl rfl rfl hl (Nat.le_of_ble_eq_true rfl) dX9_edge_2 (Nat.le_of_ble_eq_true rfl) (Nat.le_of_ble_eq_true rfl) rfl (fun H locs hP hS => ?_)
  obtain ⟨h4, h⟩ := chk_at h
  refine z_if_eq (tgt := 16) hx hb h4 dX9_edge_5 (by decide) (fun hq => ?_) (fun hq => ?_)
  · replace h := if_yes hq h
    refine lv_iconst (v := Int32.ofInt (-1 : Int)) hx hb dX9_edge_16 (by decide) ?_
    obtain rfl := Option.some.inj h
    exact hr _ _ _ _ dX9_edge_17 hP hS
  · replace h := if_no hq h
    refine lv_aload_n hx hb dX9_edge_8 rfl (lv_at hl 0 rfl) ?_
    refine lv_iload_n hx hb dX9_edge_9 rfl (lv_at hl 2 rfl) ?_
    obtain ⟨S5, x7, hk6, h⟩ := ob2_at h
    refine cl_Vi (As := [.int (Int32.ofInt v2)]) (rest := []) hc k_X9_isPoint q_208 (c_X9_isPoint hk6) hP hS (WM_0 a g (em S1)) rfl rfl rfl hl (Nat.le_of_ble_eq_true rfl) dX9_edge_10 (Nat.le_of_ble_eq_true rfl) (Nat.le_of_ble_eq_true rfl) rfl (fun H locs hP hS => ?_)
    obtain ⟨h8, h⟩ := chk_at h
    refine z_if_ne (tgt := 18) hx hb h8 dX9_edge_13 (by decide) (fun hq => ?_) (fun hq => ?_)
    · replace h := if_no hq h
      refine lv_aload_n hx hb dX9_edge_18 rfl (lv_at hl 0 rfl) ?_
      obtain ⟨S9, hk10, h⟩ := ob1_at h
      refine cl_Vv (As := []) (rest := []) hc k_X9_findAll q_540 (c_X9_findAll hk10) hP hS (WM_0 a g (em S5)) rfl rfl rfl hl (Nat.le_of_ble_eq_true rfl) dX9_edge_19 (Nat.le_of_ble_eq_true rfl) (Nat.le_of_ble_eq_true rfl) rfl (fun H locs hP hS => ?_)
      refine lv_iconst (v := Int32.ofInt (0 : Int)) hx hb dX9_edge_22 (by decide) ?_
      refine lv_istore_n (lv' := [(3, .int (Int32.ofInt (0 : Int))), (0, .ref (a 0)), (1, .int (Int32.ofInt v1)), (2, .int (Int32.ofInt v2))]) hx hb dX9_edge_23 rfl hl (by decide) rfl (fun ls hl => ?_)
      exact t_X9_edge_p24 hc hr FU S9 v1 v2 (0 : Int) h H locs ls hP hS (lv_sub hl [1, 2, 3, 0] rfl)
    · replace h := if_yes hq h
      refine lv_iconst (v := Int32.ofInt (-1 : Int)) hx hb dX9_edge_16 (by decide) ?_
      obtain rfl := Option.some.inj h
      exact hr _ _ _ _ dX9_edge_17 hP hS
abbrev rm_X9_edge : Room := { frames := 8, cells := 0, slots := 0, locals := 206 }
theorem c_X9_edge {l : Launch} {D : va_G} {a : Nat → Nat} {g : Nat → ClassId} {S : SZ} {v1 : Int} {v2 : Int} {Z1 : SZ} {r1 : Int} (h : f_X9_edge S v1 v2 = some (Z1, r1)) : MetI l D (tysWM g) (WM a g) E0 yX9_edge cX9_edge 4 (some .int) rm_X9_edge [.ref (a 0), .int (Int32.ofInt v1), .int (Int32.ofInt v2)] (em S) (em Z1, Int32.ofInt r1) := mk_i (WM_same a g) (by decide) (em Z1, Int32.ofInt r1) (Nat.le_of_ble_eq_true rfl) (fun p e s m args below meth c A Q hc hE hr => t_X9_edge (z := (Z1, r1)) hc hr S v1 v2 h)
theorem k_X9_edge : CalV RX9 yX9_edge cX9_edge 4 (some .int) rm_X9_edge 2 := ⟨q_686, q_687, q_5, q_688, by decide +kernel, rfl, rfl⟩
set_option maxHeartbeats 4000000 in
set_option maxRecDepth 100000 in
theorem t_X9_fraction {z : SZ × Int} (hc : Cx p R s m args c D (tysWM g) A (WM a g) cX9_fraction 7 RX9 1 29) (hr : Rti p l e R s m args below meth c Q D A (WM a g) cX9_fraction (em z.1, Int32.ofInt z.2)) : ∀ (S : SZ) (v0 : Int) (v2 : Int) (v4 : Int), f_X9_fraction S v0 v2 v4 = some z → Go p l e R s m args below meth c Q D A (WM a g) 7 (em S) 0 [(0, .long (Int64.ofInt v0)), (2, .long (Int64.ofInt v2)), (4, .int (Int32.ofInt v4))] [] := by
  obtain ⟨⟨hx, hb, hml, hown, hts⟩, -, -, -, hnf, hno⟩ := id hc
  intro S v0 v2 v4 h H locs ls hP hS hl
  rw [f_X9_fraction] at h
  replace hl : lv_has ls 7 [(0, .long (Int64.ofInt v0)), (2, .long (Int64.ofInt v2)), (4, .int (Int32.ofInt v4))] := hl
  refine lv_lload_n hx hb dX9_fraction_0 rfl (lv_at hl 1 rfl) ?_
  refine lv_lload_n hx hb dX9_fraction_1 rfl (lv_at hl 0 rfl) ?_
  obtain ⟨S1, x3, hk2, h⟩ := ob2_at h
  refine cl_Sl (As := [.long (Int64.ofInt v2), .long (Int64.ofInt v0)]) (rest := []) hc k_X9_common q_579 (c_X9_common hk2) hP hS rfl hl (Nat.le_of_ble_eq_true rfl) dX9_fraction_2 (Nat.le_of_ble_eq_true rfl) (Nat.le_of_ble_eq_true rfl) rfl (fun H locs hP hS => ?_)
  refine lv_lstore (lv' := [(5, .long (Int64.ofInt x3)), (0, .long (Int64.ofInt v0)), (2, .long (Int64.ofInt v2)), (4, .int (Int32.ofInt v4))]) hx hb dX9_fraction_5 hl (by decide) rfl (fun ls hl => ?_)
  refine lv_iload hx hb dX9_fraction_7 (lv_at hl 3 rfl) ?_
  obtain ⟨h4, h⟩ := chk_at h
  refine z_if_ne (tgt := 19) hx hb h4 dX9_fraction_9 (by decide) (fun hq => ?_) (fun hq => ?_)
  · replace h := if_no hq h
    refine lv_lload_n hx hb dX9_fraction_19 rfl (lv_at hl 2 rfl) ?_
    refine lv_lload hx hb dX9_fraction_20 (lv_at hl 0 rfl) ?_
    obtain ⟨h5, h⟩ := chk_at h
    obtain ⟨h6, h⟩ := chk_at h
    obtain ⟨h7, h⟩ := chk_at h
    refine z_ldiv hx hb h5 h6 h7 dX9_fraction_22 ?_
    refine z_l2i hx hb dX9_fraction_23 ?_
    obtain rfl := Option.some.inj h
    exact hr _ _ _ _ dX9_fraction_24 hP hS
  · replace h := if_yes hq h
    refine lv_lload_n hx hb dX9_fraction_12 rfl (lv_at hl 1 rfl) ?_
    refine lv_lload hx hb dX9_fraction_13 (lv_at hl 0 rfl) ?_
    obtain ⟨h8, h⟩ := chk_at h
    obtain ⟨h9, h⟩ := chk_at h
    obtain ⟨h10, h⟩ := chk_at h
    refine z_ldiv hx hb h8 h9 h10 dX9_fraction_15 ?_
    refine lv_goto (tgt := 23) hx hb dX9_fraction_16 (by decide) ?_
    refine z_l2i hx hb dX9_fraction_23 ?_
    obtain rfl := Option.some.inj h
    exact hr _ _ _ _ dX9_fraction_24 hP hS
abbrev rm_X9_fraction : Room := { frames := 1, cells := 0, slots := 0, locals := 29 }
theorem c_X9_fraction {l : Launch} {D : va_G} {a : Nat → Nat} {g : Nat → ClassId} {S : SZ} {v0 : Int} {v2 : Int} {v4 : Int} {Z1 : SZ} {r1 : Int} (h : f_X9_fraction S v0 v2 v4 = some (Z1, r1)) : MetI l D (tysWM g) (WM a g) E0 yX9_fraction cX9_fraction 7 (some .int) rm_X9_fraction [.long (Int64.ofInt v0), .long (Int64.ofInt v2), .int (Int32.ofInt v4)] (em S) (em Z1, Int32.ofInt r1) := mk_i (WM_same a g) (by decide) (em Z1, Int32.ofInt r1) (Nat.le_of_ble_eq_true rfl) (fun p e s m args below meth c A Q hc hE hr => t_X9_fraction (z := (Z1, r1)) hc hr S v0 v2 v4 h)
theorem k_X9_fraction : CalS yX9_fraction cX9_fraction 7 (some .int) rm_X9_fraction 3 := ⟨q_704, q_5, q_705, by decide +kernel, rfl, rfl⟩
set_option maxHeartbeats 4000000 in
set_option maxRecDepth 100000 in
theorem t_X9_stretch {z : SZ × Int} (hc : Cx p R s m args c D (tysWM g) A (WM a g) cX9_stretch 4 RX9 9 227) (hr : Rti p l e R s m args below meth c Q D A (WM a g) cX9_stretch (em z.1, Int32.ofInt z.2)) : ∀ (S : SZ) (v1 : Int) (v2 : Int) (v3 : Int), f_X9_stretch S v1 v2 v3 = some z → Go p l e R s m args below meth c Q D A (WM a g) 4 (em S) 0 [(0, .ref (a 0)), (1, .int (Int32.ofInt v1)), (2, .int (Int32.ofInt v2)), (3, .int (Int32.ofInt v3))] [] := by
  obtain ⟨⟨hx, hb, hml, hown, hts⟩, -, -, -, hnf, hno⟩ := id hc
  intro S v1 v2 v3 h H locs ls hP hS hl
  rw [f_X9_stretch] at h
  replace hl : lv_has ls 4 [(0, .ref (a 0)), (1, .int (Int32.ofInt v1)), (2, .int (Int32.ofInt v2)), (3, .int (Int32.ofInt v3))] := hl
  refine lv_aload_n hx hb dX9_stretch_0 rfl (lv_at hl 0 rfl) ?_
  refine lv_iload_n hx hb dX9_stretch_1 rfl (lv_at hl 1 rfl) ?_
  obtain ⟨S1, x3, hk2, h⟩ := ob2_at h
  refine cl_Vi (As := [.int (Int32.ofInt v1)]) (rest := []) hc k_X9_isEdge q_669 (c_X9_isEdge hk2) hP hS (WM_0 a g (em S)) rfl rfl rfl hl (Nat.le_of_ble_eq_true rfl) dX9_stretch_2 (Nat.le_of_ble_eq_true rfl) (Nat.le_of_ble_eq_true rfl) rfl (fun H locs hP hS => ?_)
  obtain ⟨h4, h⟩ := chk_at h
  refine z_if_eq (tgt := 16) hx hb h4 dX9_stretch_5 (by decide) (fun hq => ?_) (fun hq => ?_)
  · replace h := if_yes hq h
    refine lv_iconst (v := Int32.ofInt (-1 : Int)) hx hb dX9_stretch_16 (by decide) ?_
    obtain rfl := Option.some.inj h
    exact hr _ _ _ _ dX9_stretch_17 hP hS
  · replace h := if_no hq h
    refine lv_aload_n hx hb dX9_stretch_8 rfl (lv_at hl 0 rfl) ?_
    refine lv_iload_n hx hb dX9_stretch_9 rfl (lv_at hl 2 rfl) ?_
    obtain ⟨S5, x7, hk6, h⟩ := ob2_at h
    refine cl_Vi (As := [.int (Int32.ofInt v2)]) (rest := []) hc k_X9_isFace q_645 (c_X9_isFace hk6) hP hS (WM_0 a g (em S1)) rfl rfl rfl hl (Nat.le_of_ble_eq_true rfl) dX9_stretch_10 (Nat.le_of_ble_eq_true rfl) (Nat.le_of_ble_eq_true rfl) rfl (fun H locs hP hS => ?_)
    obtain ⟨h8, h⟩ := chk_at h
    refine z_if_ne (tgt := 18) hx hb h8 dX9_stretch_13 (by decide) (fun hq => ?_) (fun hq => ?_)
    · replace h := if_no hq h
      refine lv_iload_n hx hb dX9_stretch_18 rfl (lv_at hl 3 rfl) ?_
      refine lv_iconst (v := Int32.ofInt (0 : Int)) hx hb dX9_stretch_19 (by decide) ?_
      refine lv_iconst (v := Int32.ofInt (3 : Int)) hx hb dX9_stretch_20 (by decide) ?_
      obtain ⟨S9, x11, hk10, h⟩ := ob2_at h
      refine cl_Si (As := [.int (Int32.ofInt v3), .int (Int32.ofInt (0 : Int)), .int (Int32.ofInt (3 : Int))]) (rest := []) hc k_X9_within q_158 (c_X9_within hk10) hP hS rfl hl (Nat.le_of_ble_eq_true rfl) dX9_stretch_21 (Nat.le_of_ble_eq_true rfl) (Nat.le_of_ble_eq_true rfl) rfl (fun H locs hP hS => ?_)
      obtain ⟨h12, h⟩ := chk_at h
      refine z_if_ne (tgt := 30) hx hb h12 dX9_stretch_24 (by decide) (fun hq => ?_) (fun hq => ?_)
      · replace h := if_no hq h
        refine lv_aload_n hx hb dX9_stretch_30 rfl (lv_at hl 0 rfl) ?_
        refine lv_iload_n hx hb dX9_stretch_31 rfl (lv_at hl 1 rfl) ?_
        refine lv_iload_n hx hb dX9_stretch_32 rfl (lv_at hl 2 rfl) ?_
        obtain ⟨S13, x15, hk14, h⟩ := ob2_at h
        refine cl_Vi (As := [.int (Int32.ofInt v1), .int (Int32.ofInt v2)]) (rest := []) hc k_X9_findStretch q_582 (c_X9_findStretch hk14) hP hS (WM_0 a g (em S9)) rfl rfl rfl hl (Nat.le_of_ble_eq_true rfl) dX9_stretch_33 (Nat.le_of_ble_eq_true rfl) (Nat.le_of_ble_eq_true rfl) rfl (fun H locs hP hS => ?_)
        obtain ⟨h16, h⟩ := chk_at h
        refine z_if_ne (tgt := 42) hx hb h16 dX9_stretch_36 (by decide) (fun hq => ?_) (fun hq => ?_)
        · replace h := if_no hq h
          refine lv_iload_n hx hb dX9_stretch_42 rfl (lv_at hl 3 rfl) ?_
          refine lv_iconst (v := Int32.ofInt (2 : Int)) hx hb dX9_stretch_43 (by decide) ?_
          obtain ⟨h17, h⟩ := chk_at h
          refine z_icmp_ge (tgt := 62) hx hb h17 (by decide) dX9_stretch_44 (by decide) (fun hq => ?_) (fun hq => ?_)
          · replace h := if_yes hq h
            refine lv_aload_n hx hb dX9_stretch_62 rfl (lv_at hl 0 rfl) ?_
            refine gzWM_HiddenEdgesModel_endUp hc hP q_550 dX9_stretch_63 ?_
            refine lv_aload_n hx hb dX9_stretch_66 rfl (lv_at hl 0 rfl) ?_
            refine gzWM_HiddenEdgesModel_endDown hc hP q_551 dX9_stretch_67 ?_
            refine lv_iload_n hx hb dX9_stretch_70 rfl (lv_at hl 3 rfl) ?_
            refine lv_iconst (v := Int32.ofInt (2 : Int)) hx hb dX9_stretch_71 (by decide) ?_
            refine z_isub hx hb dX9_stretch_72 ?_
            obtain ⟨S18, x20, hk19, h⟩ := ob2_at h
            refine cl_Si (As := [.long (Int64.ofInt (zl S13 2)), .long (Int64.ofInt (zl S13 3)), .int (Int32.ofInt (v3 - (2 : Int)))]) (rest := []) hc k_X9_fraction q_703 (c_X9_fraction hk19) hP hS rfl hl (Nat.le_of_ble_eq_true rfl) dX9_stretch_73 (Nat.le_of_ble_eq_true rfl) (Nat.le_of_ble_eq_true rfl) rfl (fun H locs hP hS => ?_)
            obtain rfl := Option.some.inj h
            exact hr _ _ _ _ dX9_stretch_76 hP hS
          · replace h := if_no hq h
            refine lv_aload_n hx hb dX9_stretch_47 rfl (lv_at hl 0 rfl) ?_
            refine gzWM_HiddenEdgesModel_beginUp hc hP q_548 dX9_stretch_48 ?_
            refine lv_aload_n hx hb dX9_stretch_51 rfl (lv_at hl 0 rfl) ?_
            refine gzWM_HiddenEdgesModel_beginDown hc hP q_549 dX9_stretch_52 ?_
            refine lv_iload_n hx hb dX9_stretch_55 rfl (lv_at hl 3 rfl) ?_
            obtain ⟨S21, x23, hk22, h⟩ := ob2_at h
            refine cl_Si (As := [.long (Int64.ofInt (zl S13 0)), .long (Int64.ofInt (zl S13 1)), .int (Int32.ofInt v3)]) (rest := []) hc k_X9_fraction q_703 (c_X9_fraction hk22) hP hS rfl hl (Nat.le_of_ble_eq_true rfl) dX9_stretch_56 (Nat.le_of_ble_eq_true rfl) (Nat.le_of_ble_eq_true rfl) rfl (fun H locs hP hS => ?_)
            refine lv_goto (tgt := 76) hx hb dX9_stretch_59 (by decide) ?_
            obtain rfl := Option.some.inj h
            exact hr _ _ _ _ dX9_stretch_76 hP hS
        · replace h := if_yes hq h
          refine lv_bipush (v := Int32.ofInt (-9 : Int)) hx hb dX9_stretch_39 (by decide) ?_
          obtain rfl := Option.some.inj h
          exact hr _ _ _ _ dX9_stretch_41 hP hS
      · replace h := if_yes hq h
        refine lv_bipush (v := Int32.ofInt (-2 : Int)) hx hb dX9_stretch_27 (by decide) ?_
        obtain rfl := Option.some.inj h
        exact hr _ _ _ _ dX9_stretch_29 hP hS
    · replace h := if_yes hq h
      refine lv_iconst (v := Int32.ofInt (-1 : Int)) hx hb dX9_stretch_16 (by decide) ?_
      obtain rfl := Option.some.inj h
      exact hr _ _ _ _ dX9_stretch_17 hP hS
abbrev rm_X9_stretch : Room := { frames := 9, cells := 0, slots := 0, locals := 227 }
theorem c_X9_stretch {l : Launch} {D : va_G} {a : Nat → Nat} {g : Nat → ClassId} {S : SZ} {v1 : Int} {v2 : Int} {v3 : Int} {Z1 : SZ} {r1 : Int} (h : f_X9_stretch S v1 v2 v3 = some (Z1, r1)) : MetI l D (tysWM g) (WM a g) E0 yX9_stretch cX9_stretch 4 (some .int) rm_X9_stretch [.ref (a 0), .int (Int32.ofInt v1), .int (Int32.ofInt v2), .int (Int32.ofInt v3)] (em S) (em Z1, Int32.ofInt r1) := mk_i (WM_same a g) (by decide) (em Z1, Int32.ofInt r1) (Nat.le_of_ble_eq_true rfl) (fun p e s m args below meth c A Q hc hE hr => t_X9_stretch (z := (Z1, r1)) hc hr S v1 v2 v3 h)
theorem k_X9_stretch : CalV RX9 yX9_stretch cX9_stretch 4 (some .int) rm_X9_stretch 3 := ⟨q_700, q_701, q_5, q_702, by decide +kernel, rfl, rfl⟩
set_option maxHeartbeats 4000000 in
set_option maxRecDepth 100000 in
theorem t_X9_hides_p3 {z : SZ × Int} (hc : Cx p R s m args c D (tysWM g) A (WM a g) cX9_hides 6 RX9 4 106) (hr : Rtz p l e R s m args below meth c Q D A (WM a g) cX9_hides (em z.1, Int32.ofInt z.2)) : ∀ (fu : Nat) (S : SZ) (v1 : Int) (v2 : Int) (v3 : Int) (v4 : Int) (v5 : Int), f_X9_hides_p3 fu S v1 v2 v3 v4 v5 = some z → Go p l e R s m args below meth c Q D A (WM a g) 6 (em S) 3 [(0, .ref (a 0)), (1, .int (Int32.ofInt v1)), (2, .int (Int32.ofInt v2)), (3, .int (Int32.ofInt v3)), (4, .int (Int32.ofInt v4)), (5, .int (Int32.ofInt v5))] [] := by
  obtain ⟨⟨hx, hb, hml, hown, hts⟩, -, -, -, hnf, hno⟩ := id hc
  intro fu
  induction fu with
  | zero =>
    intro S v1 v2 v3 v4 v5 h
    rw [f_X9_hides_p3] at h
    cases h
  | succ fu ih =>
    intro S v1 v2 v3 v4 v5 h H locs ls hP hS hl
    rw [f_X9_hides_p3] at h
    refine lv_iload hx hb dX9_hides_3 (lv_at hl 5 rfl) ?_
    refine lv_iconst (v := Int32.ofInt (4 : Int)) hx hb dX9_hides_5 (by decide) ?_
    obtain ⟨h1, h⟩ := chk_at h
    refine z_icmp_ge (tgt := 58) hx hb h1 (by decide) dX9_hides_6 (by decide) (fun hq => ?_) (fun hq => ?_)
    · replace h := if_yes hq h
      refine lv_aload_n hx hb dX9_hides_58 rfl (lv_at hl 0 rfl) ?_
      refine lv_iload_n hx hb dX9_hides_59 rfl (lv_at hl 2 rfl) ?_
      obtain ⟨S2, x4, hk3, h⟩ := ob2_at h
      refine cl_Vl (As := [.int (Int32.ofInt v2)]) (rest := []) hc k_X9_turnOf q_571 (c_X9_turnOf hk3) hP hS (WM_0 a g (em S)) rfl rfl rfl hl (Nat.le_of_ble_eq_true rfl) dX9_hides_60 (Nat.le_of_ble_eq_true rfl) (Nat.le_of_ble_eq_true rfl) rfl (fun H locs hP hS => ?_)
      refine lv_lconst (v := Int64.ofInt (0 : Int)) hx hb dX9_hides_63 (by decide) ?_
      refine W.lcmp hx hb dX9_hides_64 ?_
      obtain ⟨h5, h⟩ := chk_at h
      refine zc_if_eq (tgt := 72) hx hb h5 (by decide) dX9_hides_65 (by decide) (fun hq => ?_) (fun hq => ?_)
      · replace h := if_yes hq h
        refine lv_iconst (v := Int32.ofInt (0 : Int)) hx hb dX9_hides_72 (by decide) ?_
        obtain rfl := Option.some.inj h
        exact hr (bit_of (Or.inl rfl)) _ _ _ _ dX9_hides_73 hP hS
      · replace h := if_no hq h
        refine lv_iconst (v := Int32.ofInt (1 : Int)) hx hb dX9_hides_68 (by decide) ?_
        refine lv_goto (tgt := 73) hx hb dX9_hides_69 (by decide) ?_
        obtain rfl := Option.some.inj h
        exact hr (bit_of (Or.inr rfl)) _ _ _ _ dX9_hides_73 hP hS
    · replace h := if_no hq h
      refine lv_aload_n hx hb dX9_hides_9 rfl (lv_at hl 0 rfl) ?_
      refine lv_iload_n hx hb dX9_hides_10 rfl (lv_at hl 2 rfl) ?_
      refine lv_iload hx hb dX9_hides_11 (lv_at hl 5 rfl) ?_
      refine lv_aload_n hx hb dX9_hides_13 rfl (lv_at hl 0 rfl) ?_
      refine gfWM_HiddenEdgesModel_edgeOne hc hP q_108 dX9_hides_14 ?_
      refine lv_iload_n hx hb dX9_hides_17 rfl (lv_at hl 1 rfl) ?_
      obtain ⟨h6, h⟩ := chk_at h
      refine azWM_HiddenEdgesModel_edgeOne hc hP h6 dX9_hides_18 ?_
      obtain ⟨S7, x9, hk8, h⟩ := ob2_at h
      refine cl_Vl (As := [.int (Int32.ofInt v2), .int (Int32.ofInt v5), .int (Int32.ofInt (za S 8 (v1).toNat))]) (rest := []) hc k_X9_against q_586 (c_X9_against hk8) hP hS (WM_0 a g (em S)) rfl rfl rfl hl (Nat.le_of_ble_eq_true rfl) dX9_hides_19 (Nat.le_of_ble_eq_true rfl) (Nat.le_of_ble_eq_true rfl) rfl (fun H locs hP hS => ?_)
      refine lv_iload hx hb dX9_hides_22 (lv_at hl 4 rfl) ?_
      refine lv_iload_n hx hb dX9_hides_24 rfl (lv_at hl 3 rfl) ?_
      refine z_isub hx hb dX9_hides_25 ?_
      obtain ⟨h10, h⟩ := chk_at h
      refine z_i2l hx hb h10 dX9_hides_26 ?_
      refine z_lmul hx hb dX9_hides_27 ?_
      refine lv_aload_n hx hb dX9_hides_28 rfl (lv_at hl 0 rfl) ?_
      refine lv_iload_n hx hb dX9_hides_29 rfl (lv_at hl 2 rfl) ?_
      refine lv_iload hx hb dX9_hides_30 (lv_at hl 5 rfl) ?_
      refine lv_aload_n hx hb dX9_hides_32 rfl (lv_at hl 0 rfl) ?_
      refine gfWM_HiddenEdgesModel_edgeOther hc hP q_109 dX9_hides_33 ?_
      refine lv_iload_n hx hb dX9_hides_36 rfl (lv_at hl 1 rfl) ?_
      refine azWM_HiddenEdgesModel_edgeOther hc hP h6 dX9_hides_37 ?_
      obtain ⟨S11, x13, hk12, h⟩ := ob2_at h
      refine cl_Vl (As := [.int (Int32.ofInt v2), .int (Int32.ofInt v5), .int (Int32.ofInt (za S7 9 (v1).toNat))]) (rest := [.long (Int64.ofInt (x9 * (v4 - v3)))]) hc k_X9_against q_586 (c_X9_against hk12) hP hS (WM_0 a g (em S7)) rfl rfl rfl hl (Nat.le_of_ble_eq_true rfl) dX9_hides_38 (Nat.le_of_ble_eq_true rfl) (Nat.le_of_ble_eq_true rfl) rfl (fun H locs hP hS => ?_)
      refine lv_iload_n hx hb dX9_hides_41 rfl (lv_at hl 3 rfl) ?_
      obtain ⟨h14, h⟩ := chk_at h
      refine z_i2l hx hb h14 dX9_hides_42 ?_
      refine z_lmul hx hb dX9_hides_43 ?_
      refine z_ladd hx hb dX9_hides_44 ?_
      refine lv_lconst (v := Int64.ofInt (0 : Int)) hx hb dX9_hides_45 (by decide) ?_
      refine W.lcmp hx hb dX9_hides_46 ?_
      obtain ⟨h15, h⟩ := chk_at h
      refine zc_if_gt (tgt := 52) hx hb h15 (by decide) dX9_hides_47 (by decide) (fun hq => ?_) (fun hq => ?_)
      · replace h := if_yes hq h
        obtain ⟨x16, ex16⟩ : ∃ y : Int, y = v5 + (1 : Int) := ⟨_, rfl⟩
        replace h := olet_at ex16 h
        refine lv_iinc (v := Int32.ofInt x16) (lv' := [(5, .int (Int32.ofInt x16)), (0, .ref (a 0)), (1, .int (Int32.ofInt v1)), (2, .int (Int32.ofInt v2)), (3, .int (Int32.ofInt v3)), (4, .int (Int32.ofInt v4))]) hx hb dX9_hides_52 hl (k := 5) rfl (by rw [ex16, Int32.ofInt_add]) (by decide) rfl (fun ls hl => ?_)
        refine lv_goto (tgt := 3) hx hb dX9_hides_55 (by decide) ?_
        exact ih S11 v1 v2 v3 v4 x16 h H locs ls hP hS (lv_sub hl [1, 2, 3, 4, 5, 0] rfl)
      · replace h := if_no hq h
        refine lv_iconst (v := Int32.ofInt (0 : Int)) hx hb dX9_hides_50 (by decide) ?_
        obtain rfl := Option.some.inj h
        exact hr (bit_of (Or.inl rfl)) _ _ _ _ dX9_hides_51 hP hS
set_option maxHeartbeats 4000000 in
set_option maxRecDepth 100000 in
theorem t_X9_hides {z : SZ × Int} (hc : Cx p R s m args c D (tysWM g) A (WM a g) cX9_hides 6 RX9 4 106) (hr : Rtz p l e R s m args below meth c Q D A (WM a g) cX9_hides (em z.1, Int32.ofInt z.2)) : ∀ (S : SZ) (v1 : Int) (v2 : Int) (v3 : Int) (v4 : Int), f_X9_hides S v1 v2 v3 v4 = some z → Go p l e R s m args below meth c Q D A (WM a g) 6 (em S) 0 [(0, .ref (a 0)), (1, .int (Int32.ofInt v1)), (2, .int (Int32.ofInt v2)), (3, .int (Int32.ofInt v3)), (4, .int (Int32.ofInt v4))] [] := by
  obtain ⟨⟨hx, hb, hml, hown, hts⟩, -, -, -, hnf, hno⟩ := id hc
  intro S v1 v2 v3 v4 h H locs ls hP hS hl
  rw [f_X9_hides] at h
  replace hl : lv_has ls 6 [(0, .ref (a 0)), (1, .int (Int32.ofInt v1)), (2, .int (Int32.ofInt v2)), (3, .int (Int32.ofInt v3)), (4, .int (Int32.ofInt v4))] := hl
  refine lv_iconst (v := Int32.ofInt (0 : Int)) hx hb dX9_hides_0 (by decide) ?_
  refine lv_istore (lv' := [(5, .int (Int32.ofInt (0 : Int))), (0, .ref (a 0)), (1, .int (Int32.ofInt v1)), (2, .int (Int32.ofInt v2)), (3, .int (Int32.ofInt v3)), (4, .int (Int32.ofInt v4))]) hx hb dX9_hides_1 hl (by decide) rfl (fun ls hl => ?_)
  exact t_X9_hides_p3 hc hr FU S v1 v2 v3 v4 (0 : Int) h H locs ls hP hS (lv_sub hl [1, 2, 3, 4, 5, 0] rfl)
abbrev rm_X9_hides : Room := { frames := 4, cells := 0, slots := 0, locals := 106 }
theorem c_X9_hides {l : Launch} {D : va_G} {a : Nat → Nat} {g : Nat → ClassId} {S : SZ} {v1 : Int} {v2 : Int} {v3 : Int} {v4 : Int} {Z1 : SZ} {r1 : Int} (h : f_X9_hides S v1 v2 v3 v4 = some (Z1, r1)) : MetI l D (tysWM g) (WM a g) E0 yX9_hides cX9_hides 6 (some .boolean) rm_X9_hides [.ref (a 0), .int (Int32.ofInt v1), .int (Int32.ofInt v2), .int (Int32.ofInt v3), .int (Int32.ofInt v4)] (em S) (em Z1, Int32.ofInt r1) := mk_z (WM_same a g) (by decide) (em Z1, Int32.ofInt r1) (Nat.le_of_ble_eq_true rfl) (fun p e s m args below meth c A Q hc hE hr => t_X9_hides (z := (Z1, r1)) hc hr S v1 v2 v3 v4 h)
theorem k_X9_hides : CalV RX9 yX9_hides cX9_hides 6 (some .boolean) rm_X9_hides 4 := ⟨q_715, q_716, q_5, q_717, by decide +kernel, rfl, rfl⟩
set_option maxHeartbeats 4000000 in
set_option maxRecDepth 100000 in
theorem t_X9_hidden_p39 {z : SZ × Int} (hc : Cx p R s m args c D (tysWM g) A (WM a g) cX9_hidden 6 RX9 9 227) (hr : Rti p l e R s m args below meth c Q D A (WM a g) cX9_hidden (em z.1, Int32.ofInt z.2)) : ∀ (fu : Nat) (S : SZ) (v1 : Int) (v2 : Int) (v3 : Int) (v4 : Int) (v5 : Int), f_X9_hidden_p39 fu S v1 v2 v3 v4 v5 = some z → Go p l e R s m args below meth c Q D A (WM a g) 6 (em S) 39 [(0, .ref (a 0)), (1, .int (Int32.ofInt v1)), (2, .int (Int32.ofInt v2)), (3, .int (Int32.ofInt v3)), (4, .int (Int32.ofInt v4)), (5, .int (Int32.ofInt v5))] [] := by
  obtain ⟨⟨hx, hb, hml, hown, hts⟩, -, -, -, hnf, hno⟩ := id hc
  intro fu
  induction fu with
  | zero =>
    intro S v1 v2 v3 v4 v5 h
    rw [f_X9_hidden_p39] at h
    cases h
  | succ fu ih =>
    intro S v1 v2 v3 v4 v5 h H locs ls hP hS hl
    rw [f_X9_hidden_p39] at h
    refine lv_iload hx hb dX9_hidden_39 (lv_at hl 5 rfl) ?_
    refine lv_aload_n hx hb dX9_hidden_41 rfl (lv_at hl 0 rfl) ?_
    refine gzWM_HiddenEdgesModel_faces hc hP q_207 dX9_hidden_42 ?_
    obtain ⟨h1, h⟩ := chk_at h
    obtain ⟨h2, h⟩ := chk_at h
    refine z_icmp_ge (tgt := 76) hx hb h1 h2 dX9_hidden_45 (by decide) (fun hq => ?_) (fun hq => ?_)
    · replace h := if_yes hq h
      refine lv_iload hx hb dX9_hidden_76 (lv_at hl 4 rfl) ?_
      obtain rfl := Option.some.inj h
      exact hr _ _ _ _ dX9_hidden_78 hP hS
    · replace h := if_no hq h
      refine lv_iload hx hb dX9_hidden_48 (lv_at hl 4 rfl) ?_
      refine lv_aload_n hx hb dX9_hidden_50 rfl (lv_at hl 0 rfl) ?_
      refine lv_iload_n hx hb dX9_hidden_51 rfl (lv_at hl 1 rfl) ?_
      refine lv_iload hx hb dX9_hidden_52 (lv_at hl 5 rfl) ?_
      refine lv_iload_n hx hb dX9_hidden_54 rfl (lv_at hl 2 rfl) ?_
      refine lv_iload_n hx hb dX9_hidden_55 rfl (lv_at hl 3 rfl) ?_
      obtain ⟨S3, x5, hk4, h⟩ := ob2_at h
      refine cl_Vi (As := [.int (Int32.ofInt v1), .int (Int32.ofInt v5), .int (Int32.ofInt v2), .int (Int32.ofInt v3)]) (rest := [.int (Int32.ofInt v4)]) hc k_X9_hides q_714 (c_X9_hides hk4) hP hS (WM_0 a g (em S)) rfl rfl rfl hl (Nat.le_of_ble_eq_true rfl) dX9_hidden_56 (Nat.le_of_ble_eq_true rfl) (Nat.le_of_ble_eq_true rfl) rfl (fun H locs hP hS => ?_)
      obtain ⟨h6, h⟩ := chk_at h
      refine z_if_eq (tgt := 66) hx hb h6 dX9_hidden_59 (by decide) (fun hq => ?_) (fun hq => ?_)
      · replace h := if_yes hq h
        refine lv_iconst (v := Int32.ofInt (0 : Int)) hx hb dX9_hidden_66 (by decide) ?_
        refine z_iadd hx hb dX9_hidden_67 ?_
        refine z_topi (fun x7 ex7 => ?_)
        replace h := olet_at ex7 h
        refine lv_istore (lv' := [(4, .int (Int32.ofInt x7)), (0, .ref (a 0)), (1, .int (Int32.ofInt v1)), (2, .int (Int32.ofInt v2)), (3, .int (Int32.ofInt v3)), (5, .int (Int32.ofInt v5))]) hx hb dX9_hidden_68 hl (by decide) rfl (fun ls hl => ?_)
        obtain ⟨x8, ex8⟩ : ∃ y : Int, y = v5 + (1 : Int) := ⟨_, rfl⟩
        replace h := olet_at ex8 h
        refine lv_iinc (v := Int32.ofInt x8) (lv' := [(5, .int (Int32.ofInt x8)), (4, .int (Int32.ofInt x7)), (0, .ref (a 0)), (1, .int (Int32.ofInt v1)), (2, .int (Int32.ofInt v2)), (3, .int (Int32.ofInt v3))]) hx hb dX9_hidden_70 hl (k := 5) rfl (by rw [ex8, Int32.ofInt_add]) (by decide) rfl (fun ls hl => ?_)
        refine lv_goto (tgt := 39) hx hb dX9_hidden_73 (by decide) ?_
        exact ih S3 v1 v2 v3 x7 x8 h H locs ls hP hS (lv_sub hl [2, 3, 4, 5, 1, 0] rfl)
      · replace h := if_no hq h
        refine lv_iconst (v := Int32.ofInt (1 : Int)) hx hb dX9_hidden_62 (by decide) ?_
        refine lv_goto (tgt := 67) hx hb dX9_hidden_63 (by decide) ?_
        refine z_iadd hx hb dX9_hidden_67 ?_
        refine z_topi (fun x9 ex9 => ?_)
        replace h := olet_at ex9 h
        refine lv_istore (lv' := [(4, .int (Int32.ofInt x9)), (0, .ref (a 0)), (1, .int (Int32.ofInt v1)), (2, .int (Int32.ofInt v2)), (3, .int (Int32.ofInt v3)), (5, .int (Int32.ofInt v5))]) hx hb dX9_hidden_68 hl (by decide) rfl (fun ls hl => ?_)
        obtain ⟨x10, ex10⟩ : ∃ y : Int, y = v5 + (1 : Int) := ⟨_, rfl⟩
        replace h := olet_at ex10 h
        refine lv_iinc (v := Int32.ofInt x10) (lv' := [(5, .int (Int32.ofInt x10)), (4, .int (Int32.ofInt x9)), (0, .ref (a 0)), (1, .int (Int32.ofInt v1)), (2, .int (Int32.ofInt v2)), (3, .int (Int32.ofInt v3))]) hx hb dX9_hidden_70 hl (k := 5) rfl (by rw [ex10, Int32.ofInt_add]) (by decide) rfl (fun ls hl => ?_)
        refine lv_goto (tgt := 39) hx hb dX9_hidden_73 (by decide) ?_
        exact ih S3 v1 v2 v3 x9 x10 h H locs ls hP hS (lv_sub hl [2, 3, 4, 5, 1, 0] rfl)
set_option maxHeartbeats 4000000 in
set_option maxRecDepth 100000 in
theorem t_X9_hidden {z : SZ × Int} (hc : Cx p R s m args c D (tysWM g) A (WM a g) cX9_hidden 6 RX9 9 227) (hr : Rti p l e R s m args below meth c Q D A (WM a g) cX9_hidden (em z.1, Int32.ofInt z.2)) : ∀ (S : SZ) (v1 : Int) (v2 : Int) (v3 : Int), f_X9_hidden S v1 v2 v3 = some z → Go p l e R s m args below meth c Q D A (WM a g) 6 (em S) 0 [(0, .ref (a 0)), (1, .int (Int32.ofInt v1)), (2, .int (Int32.ofInt v2)), (3, .int (Int32.ofInt v3))] [] := by
  obtain ⟨⟨hx, hb, hml, hown, hts⟩, -, -, -, hnf, hno⟩ := id hc
  intro S v1 v2 v3 h H locs ls hP hS hl
  rw [f_X9_hidden] at h
  replace hl : lv_has ls 6 [(0, .ref (a 0)), (1, .int (Int32.ofInt v1)), (2, .int (Int32.ofInt v2)), (3, .int (Int32.ofInt v3))] := hl
  refine lv_aload_n hx hb dX9_hidden_0 rfl (lv_at hl 0 rfl) ?_
  refine lv_iload_n hx hb dX9_hidden_1 rfl (lv_at hl 1 rfl) ?_
  obtain ⟨S1, x3, hk2, h⟩ := ob2_at h
  refine cl_Vi (As := [.int (Int32.ofInt v1)]) (rest := []) hc k_X9_isEdge q_669 (c_X9_isEdge hk2) hP hS (WM_0 a g (em S)) rfl rfl rfl hl (Nat.le_of_ble_eq_true rfl) dX9_hidden_2 (Nat.le_of_ble_eq_true rfl) (Nat.le_of_ble_eq_true rfl) rfl (fun H locs hP hS => ?_)
  obtain ⟨h4, h⟩ := chk_at h
  refine z_if_ne (tgt := 10) hx hb h4 dX9_hidden_5 (by decide) (fun hq => ?_) (fun hq => ?_)
  · replace h := if_no hq h
    refine lv_iload_n hx hb dX9_hidden_10 rfl (lv_at hl 3 rfl) ?_
    refine lv_iconst (v := Int32.ofInt (1 : Int)) hx hb dX9_hidden_11 (by decide) ?_
    refine lv_sipush (v := Int32.ofInt (1000 : Int)) hx hb dX9_hidden_12 (by decide) ?_
    obtain ⟨S5, x7, hk6, h⟩ := ob2_at h
    refine cl_Si (As := [.int (Int32.ofInt v3), .int (Int32.ofInt (1 : Int)), .int (Int32.ofInt (1000 : Int))]) (rest := []) hc k_X9_within q_158 (c_X9_within hk6) hP hS rfl hl (Nat.le_of_ble_eq_true rfl) dX9_hidden_15 (Nat.le_of_ble_eq_true rfl) (Nat.le_of_ble_eq_true rfl) rfl (fun H locs hP hS => ?_)
    obtain ⟨h8, h⟩ := chk_at h
    refine z_if_eq (tgt := 30) hx hb h8 dX9_hidden_18 (by decide) (fun hq => ?_) (fun hq => ?_)
    · replace h := if_yes hq h
      refine lv_bipush (v := Int32.ofInt (-2 : Int)) hx hb dX9_hidden_30 (by decide) ?_
      obtain rfl := Option.some.inj h
      exact hr _ _ _ _ dX9_hidden_32 hP hS
    · replace h := if_no hq h
      refine lv_iload_n hx hb dX9_hidden_21 rfl (lv_at hl 2 rfl) ?_
      refine lv_iconst (v := Int32.ofInt (0 : Int)) hx hb dX9_hidden_22 (by decide) ?_
      refine lv_iload_n hx hb dX9_hidden_23 rfl (lv_at hl 3 rfl) ?_
      obtain ⟨S9, x11, hk10, h⟩ := ob2_at h
      refine cl_Si (As := [.int (Int32.ofInt v2), .int (Int32.ofInt (0 : Int)), .int (Int32.ofInt v3)]) (rest := []) hc k_X9_within q_158 (c_X9_within hk10) hP hS rfl hl (Nat.le_of_ble_eq_true rfl) dX9_hidden_24 (Nat.le_of_ble_eq_true rfl) (Nat.le_of_ble_eq_true rfl) rfl (fun H locs hP hS => ?_)
      obtain ⟨h12, h⟩ := chk_at h
      refine z_if_ne (tgt := 33) hx hb h12 dX9_hidden_27 (by decide) (fun hq => ?_) (fun hq => ?_)
      · replace h := if_no hq h
        refine lv_iconst (v := Int32.ofInt (0 : Int)) hx hb dX9_hidden_33 (by decide) ?_
        refine lv_istore (lv' := [(4, .int (Int32.ofInt (0 : Int))), (0, .ref (a 0)), (1, .int (Int32.ofInt v1)), (2, .int (Int32.ofInt v2)), (3, .int (Int32.ofInt v3))]) hx hb dX9_hidden_34 hl (by decide) rfl (fun ls hl => ?_)
        refine lv_iconst (v := Int32.ofInt (0 : Int)) hx hb dX9_hidden_36 (by decide) ?_
        refine lv_istore (lv' := [(5, .int (Int32.ofInt (0 : Int))), (4, .int (Int32.ofInt (0 : Int))), (0, .ref (a 0)), (1, .int (Int32.ofInt v1)), (2, .int (Int32.ofInt v2)), (3, .int (Int32.ofInt v3))]) hx hb dX9_hidden_37 hl (by decide) rfl (fun ls hl => ?_)
        exact t_X9_hidden_p39 hc hr FU S9 v1 v2 v3 (0 : Int) (0 : Int) h H locs ls hP hS (lv_sub hl [2, 3, 4, 5, 1, 0] rfl)
      · replace h := if_yes hq h
        refine lv_bipush (v := Int32.ofInt (-2 : Int)) hx hb dX9_hidden_30 (by decide) ?_
        obtain rfl := Option.some.inj h
        exact hr _ _ _ _ dX9_hidden_32 hP hS
  · replace h := if_yes hq h
    refine lv_iconst (v := Int32.ofInt (-1 : Int)) hx hb dX9_hidden_8 (by decide) ?_
    obtain rfl := Option.some.inj h
    exact hr _ _ _ _ dX9_hidden_9 hP hS
abbrev rm_X9_hidden : Room := { frames := 9, cells := 0, slots := 0, locals := 227 }
theorem c_X9_hidden {l : Launch} {D : va_G} {a : Nat → Nat} {g : Nat → ClassId} {S : SZ} {v1 : Int} {v2 : Int} {v3 : Int} {Z1 : SZ} {r1 : Int} (h : f_X9_hidden S v1 v2 v3 = some (Z1, r1)) : MetI l D (tysWM g) (WM a g) E0 yX9_hidden cX9_hidden 6 (some .int) rm_X9_hidden [.ref (a 0), .int (Int32.ofInt v1), .int (Int32.ofInt v2), .int (Int32.ofInt v3)] (em S) (em Z1, Int32.ofInt r1) := mk_i (WM_same a g) (by decide) (em Z1, Int32.ofInt r1) (Nat.le_of_ble_eq_true rfl) (fun p e s m args below meth c A Q hc hE hr => t_X9_hidden (z := (Z1, r1)) hc hr S v1 v2 v3 h)
theorem k_X9_hidden : CalV RX9 yX9_hidden cX9_hidden 6 (some .int) rm_X9_hidden 3 := ⟨q_711, q_712, q_5, q_713, by decide +kernel, rfl, rfl⟩
set_option maxHeartbeats 4000000 in
set_option maxRecDepth 100000 in
theorem t_X9_piece {z : SZ × Int} (hc : Cx p R s m args c D (tysWM g) A (WM a g) cX9_piece 5 RX9 9 227) (hr : Rti p l e R s m args below meth c Q D A (WM a g) cX9_piece (em z.1, Int32.ofInt z.2)) : ∀ (S : SZ) (v1 : Int) (v2 : Int) (v3 : Int), f_X9_piece S v1 v2 v3 = some z → Go p l e R s m args below meth c Q D A (WM a g) 5 (em S) 0 [(0, .ref (a 0)), (1, .int (Int32.ofInt v1)), (2, .int (Int32.ofInt v2)), (3, .int (Int32.ofInt v3))] [] := by
  obtain ⟨⟨hx, hb, hml, hown, hts⟩, -, -, -, hnf, hno⟩ := id hc
  intro S v1 v2 v3 h H locs ls hP hS hl
  rw [f_X9_piece] at h
  replace hl : lv_has ls 5 [(0, .ref (a 0)), (1, .int (Int32.ofInt v1)), (2, .int (Int32.ofInt v2)), (3, .int (Int32.ofInt v3))] := hl
  refine lv_aload_n hx hb dX9_piece_0 rfl (lv_at hl 0 rfl) ?_
  refine lv_iload_n hx hb dX9_piece_1 rfl (lv_at hl 1 rfl) ?_
  obtain ⟨S1, x3, hk2, h⟩ := ob2_at h
  refine cl_Vi (As := [.int (Int32.ofInt v1)]) (rest := []) hc k_X9_isEdge q_669 (c_X9_isEdge hk2) hP hS (WM_0 a g (em S)) rfl rfl rfl hl (Nat.le_of_ble_eq_true rfl) dX9_piece_2 (Nat.le_of_ble_eq_true rfl) (Nat.le_of_ble_eq_true rfl) rfl (fun H locs hP hS => ?_)
  obtain ⟨h4, h⟩ := chk_at h
  refine z_if_eq (tgt := 23) hx hb h4 dX9_piece_5 (by decide) (fun hq => ?_) (fun hq => ?_)
  · replace h := if_yes hq h
    refine lv_iconst (v := Int32.ofInt (-1 : Int)) hx hb dX9_piece_23 (by decide) ?_
    obtain rfl := Option.some.inj h
    exact hr _ _ _ _ dX9_piece_24 hP hS
  · replace h := if_no hq h
    refine lv_iload_n hx hb dX9_piece_8 rfl (lv_at hl 2 rfl) ?_
    refine lv_iconst (v := Int32.ofInt (0 : Int)) hx hb dX9_piece_9 (by decide) ?_
    refine lv_aload_n hx hb dX9_piece_10 rfl (lv_at hl 0 rfl) ?_
    refine lv_iload_n hx hb dX9_piece_11 rfl (lv_at hl 1 rfl) ?_
    obtain ⟨S5, x7, hk6, h⟩ := ob2_at h
    refine cl_Vi (As := [.int (Int32.ofInt v1)]) (rest := [.int (Int32.ofInt (0 : Int)), .int (Int32.ofInt v2)]) hc k_X9_piecesOf q_600 (c_X9_piecesOf hk6) hP hS (WM_0 a g (em S1)) rfl rfl rfl hl (Nat.le_of_ble_eq_true rfl) dX9_piece_12 (Nat.le_of_ble_eq_true rfl) (Nat.le_of_ble_eq_true rfl) rfl (fun H locs hP hS => ?_)
    refine lv_iconst (v := Int32.ofInt (1 : Int)) hx hb dX9_piece_15 (by decide) ?_
    refine z_isub hx hb dX9_piece_16 ?_
    obtain ⟨S8, x10, hk9, h⟩ := ob2_at h
    refine cl_Si (As := [.int (Int32.ofInt v2), .int (Int32.ofInt (0 : Int)), .int (Int32.ofInt (x7 - (1 : Int)))]) (rest := []) hc k_X9_within q_158 (c_X9_within hk9) hP hS rfl hl (Nat.le_of_ble_eq_true rfl) dX9_piece_17 (Nat.le_of_ble_eq_true rfl) (Nat.le_of_ble_eq_true rfl) rfl (fun H locs hP hS => ?_)
    obtain ⟨h11, h⟩ := chk_at h
    refine z_if_ne (tgt := 25) hx hb h11 dX9_piece_20 (by decide) (fun hq => ?_) (fun hq => ?_)
    · replace h := if_no hq h
      refine lv_bipush (v := Int32.ofInt (50 : Int)) hx hb dX9_piece_25 (by decide) ?_
      refine lv_iload_n hx hb dX9_piece_27 rfl (lv_at hl 1 rfl) ?_
      refine z_imul hx hb dX9_piece_28 ?_
      refine lv_iload_n hx hb dX9_piece_29 rfl (lv_at hl 2 rfl) ?_
      refine z_iadd hx hb dX9_piece_30 ?_
      refine z_topi (fun x12 ex12 => ?_)
      replace h := olet_at ex12 h
      refine lv_istore (lv' := [(4, .int (Int32.ofInt x12)), (0, .ref (a 0)), (1, .int (Int32.ofInt v1)), (2, .int (Int32.ofInt v2)), (3, .int (Int32.ofInt v3))]) hx hb dX9_piece_31 hl (by decide) rfl (fun ls hl => ?_)
      refine lv_iload_n hx hb dX9_piece_33 rfl (lv_at hl 4 rfl) ?_
      obtain ⟨h13, h⟩ := chk_at h
      by_cases hsw : v3 < 0 ∨ 4 < v3
      · replace h := if_yes hsw h
        refine lv_tableOut (tgt := 116) hx hb dX9_piece_34 (by rw [o32 h13]; exact hsw) (by decide) ?_
        refine lv_bipush (v := Int32.ofInt (-2 : Int)) hx hb dX9_piece_116 (by decide) ?_
        obtain rfl := Option.some.inj h
        exact hr _ _ _ _ dX9_piece_118 hP hS
      replace h := if_no hsw h
      by_cases hs0 : v3 = 0
      · replace h := if_yes hs0 h
        refine lv_tableIn (off := 34) (tgt := 68) hx hb dX9_piece_34 (by rw [o32 h13]; exact fun h9 => hsw (Or.inl h9)) (by rw [o32 h13]; exact fun h9 => hsw (Or.inr h9)) (by rw [o32 h13, hs0]; rfl) (by decide) ?_
        refine lv_aload_n hx hb dX9_piece_68 rfl (lv_at hl 1 rfl) ?_
        refine gfWM_HiddenEdgesModel_cutUp hc hP q_113 dX9_piece_69 ?_
        refine lv_iload hx hb dX9_piece_72 (lv_at hl 0 rfl) ?_
        obtain ⟨h14, h⟩ := chk_at h
        refine azWM_HiddenEdgesModel_cutUp hc hP h14 dX9_piece_74 ?_
        refine z_l2i hx hb dX9_piece_75 ?_
        obtain rfl := Option.some.inj h
        exact hr _ _ _ _ dX9_piece_76 hP hS
      replace h := if_no hs0 h
      by_cases hs1 : v3 = 1
      · replace h := if_yes hs1 h
        refine lv_tableIn (off := 43) (tgt := 77) hx hb dX9_piece_34 (by rw [o32 h13]; exact fun h9 => hsw (Or.inl h9)) (by rw [o32 h13]; exact fun h9 => hsw (Or.inr h9)) (by rw [o32 h13, hs1]; rfl) (by decide) ?_
        refine lv_aload_n hx hb dX9_piece_77 rfl (lv_at hl 1 rfl) ?_
        refine gfWM_HiddenEdgesModel_cutDown hc hP q_114 dX9_piece_78 ?_
        refine lv_iload hx hb dX9_piece_81 (lv_at hl 0 rfl) ?_
        obtain ⟨h15, h⟩ := chk_at h
        refine azWM_HiddenEdgesModel_cutDown hc hP h15 dX9_piece_83 ?_
        refine z_l2i hx hb dX9_piece_84 ?_
        obtain rfl := Option.some.inj h
        exact hr _ _ _ _ dX9_piece_85 hP hS
      replace h := if_no hs1 h
      by_cases hs2 : v3 = 2
      · replace h := if_yes hs2 h
        refine lv_tableIn (off := 52) (tgt := 86) hx hb dX9_piece_34 (by rw [o32 h13]; exact fun h9 => hsw (Or.inl h9)) (by rw [o32 h13]; exact fun h9 => hsw (Or.inr h9)) (by rw [o32 h13, hs2]; rfl) (by decide) ?_
        refine lv_aload_n hx hb dX9_piece_86 rfl (lv_at hl 1 rfl) ?_
        refine gfWM_HiddenEdgesModel_cutUp hc hP q_113 dX9_piece_87 ?_
        refine lv_iload hx hb dX9_piece_90 (lv_at hl 0 rfl) ?_
        refine lv_iconst (v := Int32.ofInt (1 : Int)) hx hb dX9_piece_92 (by decide) ?_
        refine z_iadd hx hb dX9_piece_93 ?_
        obtain ⟨h16, h⟩ := chk_at h
        refine azWM_HiddenEdgesModel_cutUp hc hP h16 dX9_piece_94 ?_
        refine z_l2i hx hb dX9_piece_95 ?_
        obtain rfl := Option.some.inj h
        exact hr _ _ _ _ dX9_piece_96 hP hS
      replace h := if_no hs2 h
      by_cases hs3 : v3 = 3
      · replace h := if_yes hs3 h
        refine lv_tableIn (off := 63) (tgt := 97) hx hb dX9_piece_34 (by rw [o32 h13]; exact fun h9 => hsw (Or.inl h9)) (by rw [o32 h13]; exact fun h9 => hsw (Or.inr h9)) (by rw [o32 h13, hs3]; rfl) (by decide) ?_
        refine lv_aload_n hx hb dX9_piece_97 rfl (lv_at hl 1 rfl) ?_
        refine gfWM_HiddenEdgesModel_cutDown hc hP q_114 dX9_piece_98 ?_
        refine lv_iload hx hb dX9_piece_101 (lv_at hl 0 rfl) ?_
        refine lv_iconst (v := Int32.ofInt (1 : Int)) hx hb dX9_piece_103 (by decide) ?_
        refine z_iadd hx hb dX9_piece_104 ?_
        obtain ⟨h17, h⟩ := chk_at h
        refine azWM_HiddenEdgesModel_cutDown hc hP h17 dX9_piece_105 ?_
        refine z_l2i hx hb dX9_piece_106 ?_
        obtain rfl := Option.some.inj h
        exact hr _ _ _ _ dX9_piece_107 hP hS
      replace h := if_no hs3 h
      by_cases hs4 : v3 = 4
      · replace h := if_yes hs4 h
        refine lv_tableIn (off := 74) (tgt := 108) hx hb dX9_piece_34 (by rw [o32 h13]; exact fun h9 => hsw (Or.inl h9)) (by rw [o32 h13]; exact fun h9 => hsw (Or.inr h9)) (by rw [o32 h13, hs4]; rfl) (by decide) ?_
        refine lv_aload_n hx hb dX9_piece_108 rfl (lv_at hl 1 rfl) ?_
        refine gfWM_HiddenEdgesModel_quantity hc hP q_115 dX9_piece_109 ?_
        refine lv_iload hx hb dX9_piece_112 (lv_at hl 0 rfl) ?_
        obtain ⟨h18, h⟩ := chk_at h
        refine azWM_HiddenEdgesModel_quantity hc hP h18 dX9_piece_114 ?_
        obtain rfl := Option.some.inj h
        exact hr _ _ _ _ dX9_piece_115 hP hS
      replace h := if_no hs4 h
      cases h
    · replace h := if_yes hq h
      refine lv_iconst (v := Int32.ofInt (-1 : Int)) hx hb dX9_piece_23 (by decide) ?_
      obtain rfl := Option.some.inj h
      exact hr _ _ _ _ dX9_piece_24 hP hS
abbrev rm_X9_piece : Room := { frames := 9, cells := 0, slots := 0, locals := 227 }
theorem c_X9_piece {l : Launch} {D : va_G} {a : Nat → Nat} {g : Nat → ClassId} {S : SZ} {v1 : Int} {v2 : Int} {v3 : Int} {Z1 : SZ} {r1 : Int} (h : f_X9_piece S v1 v2 v3 = some (Z1, r1)) : MetI l D (tysWM g) (WM a g) E0 yX9_piece cX9_piece 5 (some .int) rm_X9_piece [.ref (a 0), .int (Int32.ofInt v1), .int (Int32.ofInt v2), .int (Int32.ofInt v3)] (em S) (em Z1, Int32.ofInt r1) := mk_i (WM_same a g) (by decide) (em Z1, Int32.ofInt r1) (Nat.le_of_ble_eq_true rfl) (fun p e s m args below meth c A Q hc hE hr => t_X9_piece (z := (Z1, r1)) hc hr S v1 v2 v3 h)
theorem k_X9_piece : CalV RX9 yX9_piece cX9_piece 5 (some .int) rm_X9_piece 3 := ⟨q_725, q_726, q_5, q_727, by decide +kernel, rfl, rfl⟩
set_option maxHeartbeats 4000000 in
set_option maxRecDepth 100000 in
theorem t_X9_cross_p316 {z : SZ × Int} (hc : Cx p R s m args c D (tysWM g) A (WM a g) cX9_cross 13 RX9 2 56) (hr : Rtz p l e R s m args below meth c Q D A (WM a g) cX9_cross (em z.1, Int32.ofInt z.2)) : ∀ (S : SZ), f_X9_cross_p316 S = some z → Go p l e R s m args below meth c Q D A (WM a g) 13 (em S) 316 [(0, .ref (a 0))] [] := by
  obtain ⟨⟨hx, hb, hml, hown, hts⟩, -, -, -, hnf, hno⟩ := id hc
  intro S h H locs ls hP hS hl
  rw [f_X9_cross_p316] at h
  refine lv_aload_n hx hb dX9_cross_316 rfl (lv_at hl 0 rfl) ?_
  refine gzWM_HiddenEdgesModel_crossDown hc hP q_760 dX9_cross_317 ?_
  refine lv_lconst (v := Int64.ofInt (0 : Int)) hx hb dX9_cross_320 (by decide) ?_
  refine W.lcmp hx hb dX9_cross_321 ?_
  obtain ⟨h1, h⟩ := chk_at h
  refine zc_if_eq (tgt := 371) hx hb h1 (by decide) dX9_cross_322 (by decide) (fun hq => ?_) (fun hq => ?_)
  · replace h := if_yes hq h
    refine lv_iconst (v := Int32.ofInt (0 : Int)) hx hb dX9_cross_371 (by decide) ?_
    obtain rfl := Option.some.inj h
    exact hr (bit_of (Or.inl rfl)) _ _ _ _ dX9_cross_372 hP hS
  · replace h := if_no hq h
    refine lv_aload_n hx hb dX9_cross_325 rfl (lv_at hl 0 rfl) ?_
    refine gzWM_HiddenEdgesModel_crossT hc hP q_759 dX9_cross_326 ?_
    refine lv_lconst (v := Int64.ofInt (0 : Int)) hx hb dX9_cross_329 (by decide) ?_
    refine W.lcmp hx hb dX9_cross_330 ?_
    obtain ⟨h2, h⟩ := chk_at h
    refine zc_if_le (tgt := 371) hx hb h2 (by decide) dX9_cross_331 (by decide) (fun hq => ?_) (fun hq => ?_)
    · replace h := if_yes hq h
      refine lv_iconst (v := Int32.ofInt (0 : Int)) hx hb dX9_cross_371 (by decide) ?_
      obtain rfl := Option.some.inj h
      exact hr (bit_of (Or.inl rfl)) _ _ _ _ dX9_cross_372 hP hS
    · replace h := if_no hq h
      refine lv_aload_n hx hb dX9_cross_334 rfl (lv_at hl 0 rfl) ?_
      refine gzWM_HiddenEdgesModel_crossT hc hP q_759 dX9_cross_335 ?_
      refine lv_aload_n hx hb dX9_cross_338 rfl (lv_at hl 0 rfl) ?_
      refine gzWM_HiddenEdgesModel_crossDown hc hP q_760 dX9_cross_339 ?_
      refine W.lcmp hx hb dX9_cross_342 ?_
      refine zc_if_ge (tgt := 371) hx hb h2 h1 dX9_cross_343 (by decide) (fun hq => ?_) (fun hq => ?_)
      · replace h := if_yes hq h
        refine lv_iconst (v := Int32.ofInt (0 : Int)) hx hb dX9_cross_371 (by decide) ?_
        obtain rfl := Option.some.inj h
        exact hr (bit_of (Or.inl rfl)) _ _ _ _ dX9_cross_372 hP hS
      · replace h := if_no hq h
        refine lv_aload_n hx hb dX9_cross_346 rfl (lv_at hl 0 rfl) ?_
        refine gzWM_HiddenEdgesModel_crossS hc hP q_761 dX9_cross_347 ?_
        refine lv_lconst (v := Int64.ofInt (0 : Int)) hx hb dX9_cross_350 (by decide) ?_
        refine W.lcmp hx hb dX9_cross_351 ?_
        obtain ⟨h3, h⟩ := chk_at h
        refine zc_if_le (tgt := 371) hx hb h3 (by decide) dX9_cross_352 (by decide) (fun hq => ?_) (fun hq => ?_)
        · replace h := if_yes hq h
          refine lv_iconst (v := Int32.ofInt (0 : Int)) hx hb dX9_cross_371 (by decide) ?_
          obtain rfl := Option.some.inj h
          exact hr (bit_of (Or.inl rfl)) _ _ _ _ dX9_cross_372 hP hS
        · replace h := if_no hq h
          refine lv_aload_n hx hb dX9_cross_355 rfl (lv_at hl 0 rfl) ?_
          refine gzWM_HiddenEdgesModel_crossS hc hP q_761 dX9_cross_356 ?_
          refine lv_aload_n hx hb dX9_cross_359 rfl (lv_at hl 0 rfl) ?_
          refine gzWM_HiddenEdgesModel_crossDown hc hP q_760 dX9_cross_360 ?_
          refine W.lcmp hx hb dX9_cross_363 ?_
          refine zc_if_ge (tgt := 371) hx hb h3 h1 dX9_cross_364 (by decide) (fun hq => ?_) (fun hq => ?_)
          · replace h := if_yes hq h
            refine lv_iconst (v := Int32.ofInt (0 : Int)) hx hb dX9_cross_371 (by decide) ?_
            obtain rfl := Option.some.inj h
            exact hr (bit_of (Or.inl rfl)) _ _ _ _ dX9_cross_372 hP hS
          · replace h := if_no hq h
            refine lv_iconst (v := Int32.ofInt (1 : Int)) hx hb dX9_cross_367 (by decide) ?_
            refine lv_goto (tgt := 372) hx hb dX9_cross_368 (by decide) ?_
            obtain rfl := Option.some.inj h
            exact hr (bit_of (Or.inr rfl)) _ _ _ _ dX9_cross_372 hP hS
set_option maxHeartbeats 4000000 in
set_option maxRecDepth 100000 in
theorem t_X9_cross {z : SZ × Int} (hc : Cx p R s m args c D (tysWM g) A (WM a g) cX9_cross 13 RX9 2 56) (hr : Rtz p l e R s m args below meth c Q D A (WM a g) cX9_cross (em z.1, Int32.ofInt z.2)) : ∀ (S : SZ) (v1 : Int) (v2 : Int), f_X9_cross S v1 v2 = some z → Go p l e R s m args below meth c Q D A (WM a g) 13 (em S) 0 [(0, .ref (a 0)), (1, .int (Int32.ofInt v1)), (2, .int (Int32.ofInt v2))] [] := by
  obtain ⟨⟨hx, hb, hml, hown, hts⟩, -, -, -, hnf, hno⟩ := id hc
  intro S v1 v2 h H locs ls hP hS hl
  rw [f_X9_cross] at h
  replace hl : lv_has ls 13 [(0, .ref (a 0)), (1, .int (Int32.ofInt v1)), (2, .int (Int32.ofInt v2))] := hl
  refine lv_aload_n hx hb dX9_cross_0 rfl (lv_at hl 0 rfl) ?_
  refine gfWM_HiddenEdgesModel_edgeOne hc hP q_108 dX9_cross_1 ?_
  refine lv_iload_n hx hb dX9_cross_4 rfl (lv_at hl 1 rfl) ?_
  obtain ⟨h1, h⟩ := chk_at h
  refine azWM_HiddenEdgesModel_edgeOne hc hP h1 dX9_cross_5 ?_
  refine z_topi (fun x2 ex2 => ?_)
  replace h := olet_at ex2 h
  refine lv_istore_n (lv' := [(3, .int (Int32.ofInt x2)), (0, .ref (a 0)), (1, .int (Int32.ofInt v1)), (2, .int (Int32.ofInt v2))]) hx hb dX9_cross_6 rfl hl (by decide) rfl (fun ls hl => ?_)
  refine lv_aload_n hx hb dX9_cross_7 rfl (lv_at hl 1 rfl) ?_
  refine gfWM_HiddenEdgesModel_edgeOther hc hP q_109 dX9_cross_8 ?_
  refine lv_iload_n hx hb dX9_cross_11 rfl (lv_at hl 2 rfl) ?_
  refine azWM_HiddenEdgesModel_edgeOther hc hP h1 dX9_cross_12 ?_
  refine z_topi (fun x3 ex3 => ?_)
  replace h := olet_at ex3 h
  refine lv_istore (lv' := [(4, .int (Int32.ofInt x3)), (3, .int (Int32.ofInt x2)), (0, .ref (a 0)), (1, .int (Int32.ofInt v1)), (2, .int (Int32.ofInt v2))]) hx hb dX9_cross_13 hl (by decide) rfl (fun ls hl => ?_)
  refine lv_aload_n hx hb dX9_cross_15 rfl (lv_at hl 2 rfl) ?_
  refine gfWM_HiddenEdgesModel_edgeOne hc hP q_108 dX9_cross_16 ?_
  refine lv_iload_n hx hb dX9_cross_19 rfl (lv_at hl 4 rfl) ?_
  obtain ⟨h4, h⟩ := chk_at h
  refine azWM_HiddenEdgesModel_edgeOne hc hP h4 dX9_cross_20 ?_
  refine z_topi (fun x5 ex5 => ?_)
  replace h := olet_at ex5 h
  refine lv_istore (lv' := [(5, .int (Int32.ofInt x5)), (4, .int (Int32.ofInt x3)), (3, .int (Int32.ofInt x2)), (0, .ref (a 0)), (1, .int (Int32.ofInt v1)), (2, .int (Int32.ofInt v2))]) hx hb dX9_cross_21 hl (by decide) rfl (fun ls hl => ?_)
  refine lv_aload_n hx hb dX9_cross_23 rfl (lv_at hl 3 rfl) ?_
  refine gfWM_HiddenEdgesModel_edgeOther hc hP q_109 dX9_cross_24 ?_
  refine lv_iload_n hx hb dX9_cross_27 rfl (lv_at hl 5 rfl) ?_
  refine azWM_HiddenEdgesModel_edgeOther hc hP h4 dX9_cross_28 ?_
  refine z_topi (fun x6 ex6 => ?_)
  replace h := olet_at ex6 h
  refine lv_istore (lv' := [(6, .int (Int32.ofInt x6)), (5, .int (Int32.ofInt x5)), (4, .int (Int32.ofInt x3)), (3, .int (Int32.ofInt x2)), (0, .ref (a 0)), (1, .int (Int32.ofInt v1)), (2, .int (Int32.ofInt v2))]) hx hb dX9_cross_29 hl (by decide) rfl (fun ls hl => ?_)
  refine lv_iload_n hx hb dX9_cross_31 rfl (lv_at hl 3 rfl) ?_
  refine lv_iload hx hb dX9_cross_32 (lv_at hl 1 rfl) ?_
  obtain ⟨h7, h⟩ := chk_at h
  obtain ⟨h8, h⟩ := chk_at h
  refine z_icmp_eq (tgt := 57) hx hb h7 h8 dX9_cross_34 (by decide) (fun hq => ?_) (fun hq => ?_)
  · replace h := if_yes hq h
    refine lv_iconst (v := Int32.ofInt (0 : Int)) hx hb dX9_cross_57 (by decide) ?_
    obtain rfl := Option.some.inj h
    exact hr (bit_of (Or.inl rfl)) _ _ _ _ dX9_cross_58 hP hS
  · replace h := if_no hq h
    refine lv_iload_n hx hb dX9_cross_37 rfl (lv_at hl 3 rfl) ?_
    refine lv_iload hx hb dX9_cross_38 (lv_at hl 0 rfl) ?_
    obtain ⟨h9, h⟩ := chk_at h
    refine z_icmp_eq (tgt := 57) hx hb h7 h9 dX9_cross_40 (by decide) (fun hq => ?_) (fun hq => ?_)
    · replace h := if_yes hq h
      refine lv_iconst (v := Int32.ofInt (0 : Int)) hx hb dX9_cross_57 (by decide) ?_
      obtain rfl := Option.some.inj h
      exact hr (bit_of (Or.inl rfl)) _ _ _ _ dX9_cross_58 hP hS
    · replace h := if_no hq h
      refine lv_iload hx hb dX9_cross_43 (lv_at hl 2 rfl) ?_
      refine lv_iload hx hb dX9_cross_45 (lv_at hl 1 rfl) ?_
      obtain ⟨h10, h⟩ := chk_at h
      refine z_icmp_eq (tgt := 57) hx hb h10 h8 dX9_cross_47 (by decide) (fun hq => ?_) (fun hq => ?_)
      · replace h := if_yes hq h
        refine lv_iconst (v := Int32.ofInt (0 : Int)) hx hb dX9_cross_57 (by decide) ?_
        obtain rfl := Option.some.inj h
        exact hr (bit_of (Or.inl rfl)) _ _ _ _ dX9_cross_58 hP hS
      · replace h := if_no hq h
        refine lv_iload hx hb dX9_cross_50 (lv_at hl 2 rfl) ?_
        refine lv_iload hx hb dX9_cross_52 (lv_at hl 0 rfl) ?_
        refine z_icmp_ne (tgt := 59) hx hb h10 h9 dX9_cross_54 (by decide) (fun hq => ?_) (fun hq => ?_)
        · replace h := if_no hq h
          refine lv_aload_n hx hb dX9_cross_59 rfl (lv_at hl 4 rfl) ?_
          refine gfWM_HiddenEdgesModel_xOf hc hP q_99 dX9_cross_60 ?_
          refine lv_iload hx hb dX9_cross_63 (lv_at hl 0 rfl) ?_
          obtain ⟨h11, h⟩ := chk_at h
          refine azWM_HiddenEdgesModel_xOf hc hP h11 dX9_cross_65 ?_
          refine lv_aload_n hx hb dX9_cross_66 rfl (lv_at hl 4 rfl) ?_
          refine gfWM_HiddenEdgesModel_xOf hc hP q_99 dX9_cross_67 ?_
          refine lv_iload hx hb dX9_cross_70 (lv_at hl 1 rfl) ?_
          obtain ⟨h12, h⟩ := chk_at h
          refine azWM_HiddenEdgesModel_xOf hc hP h12 dX9_cross_72 ?_
          refine z_isub hx hb dX9_cross_73 ?_
          refine z_topi (fun x13 ex13 => ?_)
          replace h := olet_at ex13 h
          refine lv_istore (lv' := [(7, .int (Int32.ofInt x13)), (6, .int (Int32.ofInt x6)), (5, .int (Int32.ofInt x5)), (4, .int (Int32.ofInt x3)), (3, .int (Int32.ofInt x2)), (0, .ref (a 0)), (1, .int (Int32.ofInt v1)), (2, .int (Int32.ofInt v2))]) hx hb dX9_cross_74 hl (by decide) rfl (fun ls hl => ?_)
          refine lv_aload_n hx hb dX9_cross_76 rfl (lv_at hl 5 rfl) ?_
          refine gfWM_HiddenEdgesModel_yOf hc hP q_100 dX9_cross_77 ?_
          refine lv_iload hx hb dX9_cross_80 (lv_at hl 1 rfl) ?_
          refine azWM_HiddenEdgesModel_yOf hc hP h11 dX9_cross_82 ?_
          refine lv_aload_n hx hb dX9_cross_83 rfl (lv_at hl 5 rfl) ?_
          refine gfWM_HiddenEdgesModel_yOf hc hP q_100 dX9_cross_84 ?_
          refine lv_iload hx hb dX9_cross_87 (lv_at hl 2 rfl) ?_
          refine azWM_HiddenEdgesModel_yOf hc hP h12 dX9_cross_89 ?_
          refine z_isub hx hb dX9_cross_90 ?_
          refine z_topi (fun x14 ex14 => ?_)
          replace h := olet_at ex14 h
          refine lv_istore (lv' := [(8, .int (Int32.ofInt x14)), (7, .int (Int32.ofInt x13)), (6, .int (Int32.ofInt x6)), (5, .int (Int32.ofInt x5)), (4, .int (Int32.ofInt x3)), (3, .int (Int32.ofInt x2)), (0, .ref (a 0)), (1, .int (Int32.ofInt v1)), (2, .int (Int32.ofInt v2))]) hx hb dX9_cross_91 hl (by decide) rfl (fun ls hl => ?_)
          refine lv_aload_n hx hb dX9_cross_93 rfl (lv_at hl 6 rfl) ?_
          refine gfWM_HiddenEdgesModel_zOf hc hP q_101 dX9_cross_94 ?_
          refine lv_iload hx hb dX9_cross_97 (lv_at hl 2 rfl) ?_
          refine azWM_HiddenEdgesModel_zOf hc hP h11 dX9_cross_99 ?_
          refine lv_aload_n hx hb dX9_cross_100 rfl (lv_at hl 6 rfl) ?_
          refine gfWM_HiddenEdgesModel_zOf hc hP q_101 dX9_cross_101 ?_
          refine lv_iload hx hb dX9_cross_104 (lv_at hl 3 rfl) ?_
          refine azWM_HiddenEdgesModel_zOf hc hP h12 dX9_cross_106 ?_
          refine z_isub hx hb dX9_cross_107 ?_
          refine z_topi (fun x15 ex15 => ?_)
          replace h := olet_at ex15 h
          refine lv_istore (lv' := [(9, .int (Int32.ofInt x15)), (8, .int (Int32.ofInt x14)), (7, .int (Int32.ofInt x13)), (6, .int (Int32.ofInt x6)), (5, .int (Int32.ofInt x5)), (4, .int (Int32.ofInt x3)), (3, .int (Int32.ofInt x2)), (0, .ref (a 0)), (1, .int (Int32.ofInt v1)), (2, .int (Int32.ofInt v2))]) hx hb dX9_cross_108 hl (by decide) rfl (fun ls hl => ?_)
          refine lv_aload_n hx hb dX9_cross_110 rfl (lv_at hl 7 rfl) ?_
          refine gfWM_HiddenEdgesModel_xOf hc hP q_99 dX9_cross_111 ?_
          refine lv_iload hx hb dX9_cross_114 (lv_at hl 4 rfl) ?_
          refine azWM_HiddenEdgesModel_xOf hc hP h12 dX9_cross_116 ?_
          refine lv_aload_n hx hb dX9_cross_117 rfl (lv_at hl 7 rfl) ?_
          refine gfWM_HiddenEdgesModel_xOf hc hP q_99 dX9_cross_118 ?_
          refine lv_iload_n hx hb dX9_cross_121 rfl (lv_at hl 6 rfl) ?_
          obtain ⟨h16, h⟩ := chk_at h
          refine azWM_HiddenEdgesModel_xOf hc hP h16 dX9_cross_122 ?_
          refine z_isub hx hb dX9_cross_123 ?_
          refine z_topi (fun x17 ex17 => ?_)
          replace h := olet_at ex17 h
          refine lv_istore (lv' := [(10, .int (Int32.ofInt x17)), (9, .int (Int32.ofInt x15)), (8, .int (Int32.ofInt x14)), (7, .int (Int32.ofInt x13)), (6, .int (Int32.ofInt x6)), (5, .int (Int32.ofInt x5)), (4, .int (Int32.ofInt x3)), (3, .int (Int32.ofInt x2)), (0, .ref (a 0)), (1, .int (Int32.ofInt v1)), (2, .int (Int32.ofInt v2))]) hx hb dX9_cross_124 hl (by decide) rfl (fun ls hl => ?_)
          refine lv_aload_n hx hb dX9_cross_126 rfl (lv_at hl 8 rfl) ?_
          refine gfWM_HiddenEdgesModel_yOf hc hP q_100 dX9_cross_127 ?_
          refine lv_iload hx hb dX9_cross_130 (lv_at hl 5 rfl) ?_
          refine azWM_HiddenEdgesModel_yOf hc hP h12 dX9_cross_132 ?_
          refine lv_aload_n hx hb dX9_cross_133 rfl (lv_at hl 8 rfl) ?_
          refine gfWM_HiddenEdgesModel_yOf hc hP q_100 dX9_cross_134 ?_
          refine lv_iload_n hx hb dX9_cross_137 rfl (lv_at hl 7 rfl) ?_
          refine azWM_HiddenEdgesModel_yOf hc hP h16 dX9_cross_138 ?_
          refine z_isub hx hb dX9_cross_139 ?_
          refine z_topi (fun x18 ex18 => ?_)
          replace h := olet_at ex18 h
          refine lv_istore (lv' := [(11, .int (Int32.ofInt x18)), (10, .int (Int32.ofInt x17)), (9, .int (Int32.ofInt x15)), (8, .int (Int32.ofInt x14)), (7, .int (Int32.ofInt x13)), (6, .int (Int32.ofInt x6)), (5, .int (Int32.ofInt x5)), (4, .int (Int32.ofInt x3)), (3, .int (Int32.ofInt x2)), (0, .ref (a 0)), (1, .int (Int32.ofInt v1)), (2, .int (Int32.ofInt v2))]) hx hb dX9_cross_140 hl (by decide) rfl (fun ls hl => ?_)
          refine lv_aload_n hx hb dX9_cross_142 rfl (lv_at hl 9 rfl) ?_
          refine gfWM_HiddenEdgesModel_zOf hc hP q_101 dX9_cross_143 ?_
          refine lv_iload hx hb dX9_cross_146 (lv_at hl 6 rfl) ?_
          refine azWM_HiddenEdgesModel_zOf hc hP h12 dX9_cross_148 ?_
          refine lv_aload_n hx hb dX9_cross_149 rfl (lv_at hl 9 rfl) ?_
          refine gfWM_HiddenEdgesModel_zOf hc hP q_101 dX9_cross_150 ?_
          refine lv_iload_n hx hb dX9_cross_153 rfl (lv_at hl 8 rfl) ?_
          refine azWM_HiddenEdgesModel_zOf hc hP h16 dX9_cross_154 ?_
          refine z_isub hx hb dX9_cross_155 ?_
          refine z_topi (fun x19 ex19 => ?_)
          replace h := olet_at ex19 h
          refine lv_istore (lv' := [(12, .int (Int32.ofInt x19)), (11, .int (Int32.ofInt x18)), (10, .int (Int32.ofInt x17)), (9, .int (Int32.ofInt x15)), (8, .int (Int32.ofInt x14)), (7, .int (Int32.ofInt x13)), (6, .int (Int32.ofInt x6)), (5, .int (Int32.ofInt x5)), (4, .int (Int32.ofInt x3)), (3, .int (Int32.ofInt x2)), (0, .ref (a 0)), (1, .int (Int32.ofInt v1)), (2, .int (Int32.ofInt v2))]) hx hb dX9_cross_156 hl (by decide) rfl (fun ls hl => ?_)
          refine lv_aload_n hx hb dX9_cross_158 rfl (lv_at hl 10 rfl) ?_
          refine lv_aload_n hx hb dX9_cross_159 rfl (lv_at hl 10 rfl) ?_
          refine lv_iload_n hx hb dX9_cross_160 rfl (lv_at hl 9 rfl) ?_
          refine lv_iload hx hb dX9_cross_161 (lv_at hl 8 rfl) ?_
          refine lv_iload hx hb dX9_cross_163 (lv_at hl 5 rfl) ?_
          refine lv_iload hx hb dX9_cross_165 (lv_at hl 4 rfl) ?_
          refine lv_iload hx hb dX9_cross_167 (lv_at hl 3 rfl) ?_
          refine lv_aload_n hx hb dX9_cross_169 rfl (lv_at hl 10 rfl) ?_
          refine gzWM_HiddenEdgesModel_dx hc hP q_302 dX9_cross_170 ?_
          refine lv_aload_n hx hb dX9_cross_173 rfl (lv_at hl 10 rfl) ?_
          refine gzWM_HiddenEdgesModel_dy hc hP q_303 dX9_cross_174 ?_
          refine lv_aload_n hx hb dX9_cross_177 rfl (lv_at hl 10 rfl) ?_
          refine gzWM_HiddenEdgesModel_dz hc hP q_105 dX9_cross_178 ?_
          obtain ⟨S20, x22, hk21, h⟩ := ob2_at h
          refine cl_Vl (As := [.int (Int32.ofInt x2), .int (Int32.ofInt x3), .int (Int32.ofInt x13), .int (Int32.ofInt x14), .int (Int32.ofInt x15), .int (Int32.ofInt (zi S 3)), .int (Int32.ofInt (zi S 4)), .int (Int32.ofInt (zi S 5))]) (rest := [.ref (a 0)]) hc k_X9_volBy q_564 (c_X9_volBy hk21) hP hS (WM_0 a g (em S)) rfl rfl rfl hl (Nat.le_of_ble_eq_true rfl) dX9_cross_181 (Nat.le_of_ble_eq_true rfl) (Nat.le_of_ble_eq_true rfl) rfl (fun H locs hP hS => ?_)
          refine pzWM_HiddenEdgesModel_crossDown hc hP hS q_760 dX9_cross_184 (fun H locs hP hS => ?_)
          obtain ⟨S23, eS23⟩ : ∃ z, z = ul S20 6 x22 := ⟨_, rfl⟩
          replace h := olet_at eS23 h
          rw [← eS23] at hP
          refine lv_aload_n hx hb dX9_cross_187 rfl (lv_at hl 10 rfl) ?_
          refine lv_iload hx hb dX9_cross_188 (lv_at hl 2 rfl) ?_
          refine lv_iload hx hb dX9_cross_190 (lv_at hl 1 rfl) ?_
          refine lv_iload hx hb dX9_cross_192 (lv_at hl 0 rfl) ?_
          refine lv_iload hx hb dX9_cross_194 (lv_at hl 5 rfl) ?_
          refine lv_iload hx hb dX9_cross_196 (lv_at hl 4 rfl) ?_
          refine lv_iload hx hb dX9_cross_198 (lv_at hl 3 rfl) ?_
          refine lv_aload_n hx hb dX9_cross_200 rfl (lv_at hl 10 rfl) ?_
          refine gzWM_HiddenEdgesModel_dx hc hP q_302 dX9_cross_201 ?_
          refine lv_aload_n hx hb dX9_cross_204 rfl (lv_at hl 10 rfl) ?_
          refine gzWM_HiddenEdgesModel_dy hc hP q_303 dX9_cross_205 ?_
          refine lv_aload_n hx hb dX9_cross_208 rfl (lv_at hl 10 rfl) ?_
          refine gzWM_HiddenEdgesModel_dz hc hP q_105 dX9_cross_209 ?_
          obtain ⟨S24, x26, hk25, h⟩ := ob2_at h
          refine cl_Sl (As := [.int (Int32.ofInt x17), .int (Int32.ofInt x18), .int (Int32.ofInt x19), .int (Int32.ofInt x13), .int (Int32.ofInt x14), .int (Int32.ofInt x15), .int (Int32.ofInt (zi S23 3)), .int (Int32.ofInt (zi S23 4)), .int (Int32.ofInt (zi S23 5))]) (rest := [.ref (a 0)]) hc k_X9_vol q_568 (c_X9_vol hk25) hP hS rfl hl (Nat.le_of_ble_eq_true rfl) dX9_cross_212 (Nat.le_of_ble_eq_true rfl) (Nat.le_of_ble_eq_true rfl) rfl (fun H locs hP hS => ?_)
          refine pzWM_HiddenEdgesModel_crossT hc hP hS q_759 dX9_cross_215 (fun H locs hP hS => ?_)
          obtain ⟨S27, eS27⟩ : ∃ z, z = ul S24 4 x26 := ⟨_, rfl⟩
          replace h := olet_at eS27 h
          rw [← eS27] at hP
          refine lv_aload_n hx hb dX9_cross_218 rfl (lv_at hl 10 rfl) ?_
          refine lv_aload_n hx hb dX9_cross_219 rfl (lv_at hl 10 rfl) ?_
          refine lv_iload_n hx hb dX9_cross_220 rfl (lv_at hl 9 rfl) ?_
          refine lv_iload hx hb dX9_cross_221 (lv_at hl 8 rfl) ?_
          refine lv_iload hx hb dX9_cross_223 (lv_at hl 2 rfl) ?_
          refine lv_iload hx hb dX9_cross_225 (lv_at hl 1 rfl) ?_
          refine lv_iload hx hb dX9_cross_227 (lv_at hl 0 rfl) ?_
          refine lv_aload_n hx hb dX9_cross_229 rfl (lv_at hl 10 rfl) ?_
          refine gzWM_HiddenEdgesModel_dx hc hP q_302 dX9_cross_230 ?_
          refine lv_aload_n hx hb dX9_cross_233 rfl (lv_at hl 10 rfl) ?_
          refine gzWM_HiddenEdgesModel_dy hc hP q_303 dX9_cross_234 ?_
          refine lv_aload_n hx hb dX9_cross_237 rfl (lv_at hl 10 rfl) ?_
          refine gzWM_HiddenEdgesModel_dz hc hP q_105 dX9_cross_238 ?_
          obtain ⟨S28, x30, hk29, h⟩ := ob2_at h
          refine cl_Vl (As := [.int (Int32.ofInt x2), .int (Int32.ofInt x3), .int (Int32.ofInt x17), .int (Int32.ofInt x18), .int (Int32.ofInt x19), .int (Int32.ofInt (zi S27 3)), .int (Int32.ofInt (zi S27 4)), .int (Int32.ofInt (zi S27 5))]) (rest := [.ref (a 0)]) hc k_X9_volBy q_564 (c_X9_volBy hk29) hP hS (WM_0 a g (em S27)) rfl rfl rfl hl (Nat.le_of_ble_eq_true rfl) dX9_cross_241 (Nat.le_of_ble_eq_true rfl) (Nat.le_of_ble_eq_true rfl) rfl (fun H locs hP hS => ?_)
          refine z_lneg hx hb dX9_cross_244 ?_
          refine pzWM_HiddenEdgesModel_crossS hc hP hS q_761 dX9_cross_245 (fun H locs hP hS => ?_)
          obtain ⟨S31, eS31⟩ : ∃ z, z = ul S28 5 (-x30) := ⟨_, rfl⟩
          replace h := olet_at eS31 h
          rw [← eS31] at hP
          refine lv_aload_n hx hb dX9_cross_248 rfl (lv_at hl 10 rfl) ?_
          refine lv_aload_n hx hb dX9_cross_249 rfl (lv_at hl 10 rfl) ?_
          refine lv_iload_n hx hb dX9_cross_250 rfl (lv_at hl 9 rfl) ?_
          refine lv_iload hx hb dX9_cross_251 (lv_at hl 8 rfl) ?_
          refine lv_iload hx hb dX9_cross_253 (lv_at hl 5 rfl) ?_
          refine lv_iload hx hb dX9_cross_255 (lv_at hl 4 rfl) ?_
          refine lv_iload hx hb dX9_cross_257 (lv_at hl 3 rfl) ?_
          refine lv_iload hx hb dX9_cross_259 (lv_at hl 2 rfl) ?_
          refine lv_iload hx hb dX9_cross_261 (lv_at hl 1 rfl) ?_
          refine lv_iload hx hb dX9_cross_263 (lv_at hl 0 rfl) ?_
          obtain ⟨S32, x34, hk33, h⟩ := ob2_at h
          refine cl_Vl (As := [.int (Int32.ofInt x2), .int (Int32.ofInt x3), .int (Int32.ofInt x13), .int (Int32.ofInt x14), .int (Int32.ofInt x15), .int (Int32.ofInt x17), .int (Int32.ofInt x18), .int (Int32.ofInt x19)]) (rest := [.ref (a 0)]) hc k_X9_volBy q_564 (c_X9_volBy hk33) hP hS (WM_0 a g (em S31)) rfl rfl rfl hl (Nat.le_of_ble_eq_true rfl) dX9_cross_265 (Nat.le_of_ble_eq_true rfl) (Nat.le_of_ble_eq_true rfl) rfl (fun H locs hP hS => ?_)
          refine pzWM_HiddenEdgesModel_crossFar hc hP hS q_758 dX9_cross_268 (fun H locs hP hS => ?_)
          obtain ⟨S35, eS35⟩ : ∃ z, z = ul S32 7 x34 := ⟨_, rfl⟩
          replace h := olet_at eS35 h
          rw [← eS35] at hP
          refine lv_aload_n hx hb dX9_cross_271 rfl (lv_at hl 10 rfl) ?_
          refine gzWM_HiddenEdgesModel_crossDown hc hP q_760 dX9_cross_272 ?_
          refine lv_lconst (v := Int64.ofInt (0 : Int)) hx hb dX9_cross_275 (by decide) ?_
          refine W.lcmp hx hb dX9_cross_276 ?_
          obtain ⟨h36, h⟩ := chk_at h
          refine zc_if_ge (tgt := 316) hx hb h36 (by decide) dX9_cross_277 (by decide) (fun hq => ?_) (fun hq => ?_)
          · replace h := if_yes hq h
            exact t_X9_cross_p316 hc hr S35 h H locs ls hP hS (lv_sub hl [10] rfl)
          · replace h := if_no hq h
            refine lv_aload_n hx hb dX9_cross_280 rfl (lv_at hl 10 rfl) ?_
            refine lv_aload_n hx hb dX9_cross_281 rfl (lv_at hl 10 rfl) ?_
            refine gzWM_HiddenEdgesModel_crossDown hc hP q_760 dX9_cross_282 ?_
            refine z_lneg hx hb dX9_cross_285 ?_
            refine pzWM_HiddenEdgesModel_crossDown hc hP hS q_760 dX9_cross_286 (fun H locs hP hS => ?_)
            obtain ⟨S37, eS37⟩ : ∃ z, z = ul S35 6 (-(zl S35 6)) := ⟨_, rfl⟩
            replace h := olet_at eS37 h
            rw [← eS37] at hP
            refine lv_aload_n hx hb dX9_cross_289 rfl (lv_at hl 10 rfl) ?_
            refine lv_aload_n hx hb dX9_cross_290 rfl (lv_at hl 10 rfl) ?_
            refine gzWM_HiddenEdgesModel_crossT hc hP q_759 dX9_cross_291 ?_
            refine z_lneg hx hb dX9_cross_294 ?_
            refine pzWM_HiddenEdgesModel_crossT hc hP hS q_759 dX9_cross_295 (fun H locs hP hS => ?_)
            obtain ⟨S38, eS38⟩ : ∃ z, z = ul S37 4 (-(zl S37 4)) := ⟨_, rfl⟩
            replace h := olet_at eS38 h
            rw [← eS38] at hP
            refine lv_aload_n hx hb dX9_cross_298 rfl (lv_at hl 10 rfl) ?_
            refine lv_aload_n hx hb dX9_cross_299 rfl (lv_at hl 10 rfl) ?_
            refine gzWM_HiddenEdgesModel_crossS hc hP q_761 dX9_cross_300 ?_
            refine z_lneg hx hb dX9_cross_303 ?_
            refine pzWM_HiddenEdgesModel_crossS hc hP hS q_761 dX9_cross_304 (fun H locs hP hS => ?_)
            obtain ⟨S39, eS39⟩ : ∃ z, z = ul S38 5 (-(zl S38 5)) := ⟨_, rfl⟩
            replace h := olet_at eS39 h
            rw [← eS39] at hP
            refine lv_aload_n hx hb dX9_cross_307 rfl (lv_at hl 10 rfl) ?_
            refine lv_aload_n hx hb dX9_cross_308 rfl (lv_at hl 10 rfl) ?_
            refine gzWM_HiddenEdgesModel_crossFar hc hP q_758 dX9_cross_309 ?_
            refine z_lneg hx hb dX9_cross_312 ?_
            refine pzWM_HiddenEdgesModel_crossFar hc hP hS q_758 dX9_cross_313 (fun H locs hP hS => ?_)
            obtain ⟨S40, eS40⟩ : ∃ z, z = ul S39 7 (-(zl S39 7)) := ⟨_, rfl⟩
            replace h := olet_at eS40 h
            rw [← eS40] at hP
            exact t_X9_cross_p316 hc hr S40 h H locs ls hP hS (lv_sub hl [10] rfl)
        · replace h := if_yes hq h
          refine lv_iconst (v := Int32.ofInt (0 : Int)) hx hb dX9_cross_57 (by decide) ?_
          obtain rfl := Option.some.inj h
          exact hr (bit_of (Or.inl rfl)) _ _ _ _ dX9_cross_58 hP hS
abbrev rm_X9_cross : Room := { frames := 2, cells := 0, slots := 0, locals := 56 }
theorem c_X9_cross {l : Launch} {D : va_G} {a : Nat → Nat} {g : Nat → ClassId} {S : SZ} {v1 : Int} {v2 : Int} {Z1 : SZ} {r1 : Int} (h : f_X9_cross S v1 v2 = some (Z1, r1)) : MetI l D (tysWM g) (WM a g) E0 yX9_cross cX9_cross 13 (some .boolean) rm_X9_cross [.ref (a 0), .int (Int32.ofInt v1), .int (Int32.ofInt v2)] (em S) (em Z1, Int32.ofInt r1) := mk_z (WM_same a g) (by decide) (em Z1, Int32.ofInt r1) (Nat.le_of_ble_eq_true rfl) (fun p e s m args below meth c A Q hc hE hr => t_X9_cross (z := (Z1, r1)) hc hr S v1 v2 h)
theorem k_X9_cross : CalV RX9 yX9_cross cX9_cross 13 (some .boolean) rm_X9_cross 2 := ⟨q_763, q_764, q_5, q_765, by decide +kernel, rfl, rfl⟩
set_option maxHeartbeats 4000000 in
set_option maxRecDepth 100000 in
theorem t_X9_crossing {z : SZ × Int} (hc : Cx p R s m args c D (tysWM g) A (WM a g) cX9_crossing 4 RX9 9 227) (hr : Rti p l e R s m args below meth c Q D A (WM a g) cX9_crossing (em z.1, Int32.ofInt z.2)) : ∀ (S : SZ) (v1 : Int) (v2 : Int) (v3 : Int), f_X9_crossing S v1 v2 v3 = some z → Go p l e R s m args below meth c Q D A (WM a g) 4 (em S) 0 [(0, .ref (a 0)), (1, .int (Int32.ofInt v1)), (2, .int (Int32.ofInt v2)), (3, .int (Int32.ofInt v3))] [] := by
  obtain ⟨⟨hx, hb, hml, hown, hts⟩, -, -, -, hnf, hno⟩ := id hc
  intro S v1 v2 v3 h H locs ls hP hS hl
  rw [f_X9_crossing] at h
  replace hl : lv_has ls 4 [(0, .ref (a 0)), (1, .int (Int32.ofInt v1)), (2, .int (Int32.ofInt v2)), (3, .int (Int32.ofInt v3))] := hl
  refine lv_aload_n hx hb dX9_crossing_0 rfl (lv_at hl 0 rfl) ?_
  refine lv_iload_n hx hb dX9_crossing_1 rfl (lv_at hl 1 rfl) ?_
  obtain ⟨S1, x3, hk2, h⟩ := ob2_at h
  refine cl_Vi (As := [.int (Int32.ofInt v1)]) (rest := []) hc k_X9_isEdge q_669 (c_X9_isEdge hk2) hP hS (WM_0 a g (em S)) rfl rfl rfl hl (Nat.le_of_ble_eq_true rfl) dX9_crossing_2 (Nat.le_of_ble_eq_true rfl) (Nat.le_of_ble_eq_true rfl) rfl (fun H locs hP hS => ?_)
  obtain ⟨h4, h⟩ := chk_at h
  refine z_if_eq (tgt := 16) hx hb h4 dX9_crossing_5 (by decide) (fun hq => ?_) (fun hq => ?_)
  · replace h := if_yes hq h
    refine lv_iconst (v := Int32.ofInt (-1 : Int)) hx hb dX9_crossing_16 (by decide) ?_
    obtain rfl := Option.some.inj h
    exact hr _ _ _ _ dX9_crossing_17 hP hS
  · replace h := if_no hq h
    refine lv_aload_n hx hb dX9_crossing_8 rfl (lv_at hl 0 rfl) ?_
    refine lv_iload_n hx hb dX9_crossing_9 rfl (lv_at hl 2 rfl) ?_
    obtain ⟨S5, x7, hk6, h⟩ := ob2_at h
    refine cl_Vi (As := [.int (Int32.ofInt v2)]) (rest := []) hc k_X9_isEdge q_669 (c_X9_isEdge hk6) hP hS (WM_0 a g (em S1)) rfl rfl rfl hl (Nat.le_of_ble_eq_true rfl) dX9_crossing_10 (Nat.le_of_ble_eq_true rfl) (Nat.le_of_ble_eq_true rfl) rfl (fun H locs hP hS => ?_)
    obtain ⟨h8, h⟩ := chk_at h
    refine z_if_ne (tgt := 18) hx hb h8 dX9_crossing_13 (by decide) (fun hq => ?_) (fun hq => ?_)
    · replace h := if_no hq h
      refine lv_iload_n hx hb dX9_crossing_18 rfl (lv_at hl 3 rfl) ?_
      refine lv_iconst (v := Int32.ofInt (0 : Int)) hx hb dX9_crossing_19 (by decide) ?_
      refine lv_iconst (v := Int32.ofInt (4 : Int)) hx hb dX9_crossing_20 (by decide) ?_
      obtain ⟨S9, x11, hk10, h⟩ := ob2_at h
      refine cl_Si (As := [.int (Int32.ofInt v3), .int (Int32.ofInt (0 : Int)), .int (Int32.ofInt (4 : Int))]) (rest := []) hc k_X9_within q_158 (c_X9_within hk10) hP hS rfl hl (Nat.le_of_ble_eq_true rfl) dX9_crossing_21 (Nat.le_of_ble_eq_true rfl) (Nat.le_of_ble_eq_true rfl) rfl (fun H locs hP hS => ?_)
      obtain ⟨h12, h⟩ := chk_at h
      refine z_if_ne (tgt := 30) hx hb h12 dX9_crossing_24 (by decide) (fun hq => ?_) (fun hq => ?_)
      · replace h := if_no hq h
        refine lv_iload_n hx hb dX9_crossing_30 rfl (lv_at hl 1 rfl) ?_
        refine lv_iload_n hx hb dX9_crossing_31 rfl (lv_at hl 2 rfl) ?_
        obtain ⟨h13, h⟩ := chk_at h
        obtain ⟨h14, h⟩ := chk_at h
        refine z_icmp_ne (tgt := 38) hx hb h13 h14 dX9_crossing_32 (by decide) (fun hq => ?_) (fun hq => ?_)
        · replace h := if_no hq h
          refine lv_aload_n hx hb dX9_crossing_38 rfl (lv_at hl 0 rfl) ?_
          refine lv_iload_n hx hb dX9_crossing_39 rfl (lv_at hl 1 rfl) ?_
          refine lv_iload_n hx hb dX9_crossing_40 rfl (lv_at hl 2 rfl) ?_
          obtain ⟨S15, x17, hk16, h⟩ := ob2_at h
          refine cl_Vi (As := [.int (Int32.ofInt v1), .int (Int32.ofInt v2)]) (rest := []) hc k_X9_cross q_762 (c_X9_cross hk16) hP hS (WM_0 a g (em S9)) rfl rfl rfl hl (Nat.le_of_ble_eq_true rfl) dX9_crossing_41 (Nat.le_of_ble_eq_true rfl) (Nat.le_of_ble_eq_true rfl) rfl (fun H locs hP hS => ?_)
          obtain ⟨h18, h⟩ := chk_at h
          refine z_if_ne (tgt := 50) hx hb h18 dX9_crossing_44 (by decide) (fun hq => ?_) (fun hq => ?_)
          · replace h := if_no hq h
            refine lv_iload_n hx hb dX9_crossing_50 rfl (lv_at hl 3 rfl) ?_
            refine lv_iconst (v := Int32.ofInt (4 : Int)) hx hb dX9_crossing_51 (by decide) ?_
            obtain ⟨h19, h⟩ := chk_at h
            refine z_icmp_ne (tgt := 84) hx hb h19 (by decide) dX9_crossing_52 (by decide) (fun hq => ?_) (fun hq => ?_)
            · replace h := if_no hq h
              refine lv_iload_n hx hb dX9_crossing_84 rfl (lv_at hl 3 rfl) ?_
              refine lv_iconst (v := Int32.ofInt (2 : Int)) hx hb dX9_crossing_85 (by decide) ?_
              refine z_icmp_ge (tgt := 104) hx hb h19 (by decide) dX9_crossing_86 (by decide) (fun hq => ?_) (fun hq => ?_)
              · replace h := if_yes hq h
                refine lv_aload_n hx hb dX9_crossing_104 rfl (lv_at hl 0 rfl) ?_
                refine gzWM_HiddenEdgesModel_crossS hc hP q_761 dX9_crossing_105 ?_
                refine lv_aload_n hx hb dX9_crossing_108 rfl (lv_at hl 0 rfl) ?_
                refine gzWM_HiddenEdgesModel_crossDown hc hP q_760 dX9_crossing_109 ?_
                refine lv_iload_n hx hb dX9_crossing_112 rfl (lv_at hl 3 rfl) ?_
                refine lv_iconst (v := Int32.ofInt (2 : Int)) hx hb dX9_crossing_113 (by decide) ?_
                refine z_isub hx hb dX9_crossing_114 ?_
                obtain ⟨S20, x22, hk21, h⟩ := ob2_at h
                refine cl_Si (As := [.long (Int64.ofInt (zl S15 5)), .long (Int64.ofInt (zl S15 6)), .int (Int32.ofInt (v3 - (2 : Int)))]) (rest := []) hc k_X9_fraction q_703 (c_X9_fraction hk21) hP hS rfl hl (Nat.le_of_ble_eq_true rfl) dX9_crossing_115 (Nat.le_of_ble_eq_true rfl) (Nat.le_of_ble_eq_true rfl) rfl (fun H locs hP hS => ?_)
                obtain rfl := Option.some.inj h
                exact hr _ _ _ _ dX9_crossing_118 hP hS
              · replace h := if_no hq h
                refine lv_aload_n hx hb dX9_crossing_89 rfl (lv_at hl 0 rfl) ?_
                refine gzWM_HiddenEdgesModel_crossT hc hP q_759 dX9_crossing_90 ?_
                refine lv_aload_n hx hb dX9_crossing_93 rfl (lv_at hl 0 rfl) ?_
                refine gzWM_HiddenEdgesModel_crossDown hc hP q_760 dX9_crossing_94 ?_
                refine lv_iload_n hx hb dX9_crossing_97 rfl (lv_at hl 3 rfl) ?_
                obtain ⟨S23, x25, hk24, h⟩ := ob2_at h
                refine cl_Si (As := [.long (Int64.ofInt (zl S15 4)), .long (Int64.ofInt (zl S15 6)), .int (Int32.ofInt v3)]) (rest := []) hc k_X9_fraction q_703 (c_X9_fraction hk24) hP hS rfl hl (Nat.le_of_ble_eq_true rfl) dX9_crossing_98 (Nat.le_of_ble_eq_true rfl) (Nat.le_of_ble_eq_true rfl) rfl (fun H locs hP hS => ?_)
                refine lv_goto (tgt := 118) hx hb dX9_crossing_101 (by decide) ?_
                obtain rfl := Option.some.inj h
                exact hr _ _ _ _ dX9_crossing_118 hP hS
            · replace h := if_yes hq h
              refine lv_aload_n hx hb dX9_crossing_55 rfl (lv_at hl 0 rfl) ?_
              refine gzWM_HiddenEdgesModel_crossFar hc hP q_758 dX9_crossing_56 ?_
              refine lv_lconst (v := Int64.ofInt (0 : Int)) hx hb dX9_crossing_59 (by decide) ?_
              refine W.lcmp hx hb dX9_crossing_60 ?_
              obtain ⟨h26, h⟩ := chk_at h
              refine zc_if_le (tgt := 68) hx hb h26 (by decide) dX9_crossing_61 (by decide) (fun hq => ?_) (fun hq => ?_)
              · replace h := if_yes hq h
                refine lv_aload_n hx hb dX9_crossing_68 rfl (lv_at hl 0 rfl) ?_
                refine gzWM_HiddenEdgesModel_crossFar hc hP q_758 dX9_crossing_69 ?_
                refine lv_lconst (v := Int64.ofInt (0 : Int)) hx hb dX9_crossing_72 (by decide) ?_
                refine W.lcmp hx hb dX9_crossing_73 ?_
                refine zc_if_ge (tgt := 81) hx hb h26 (by decide) dX9_crossing_74 (by decide) (fun hq => ?_) (fun hq => ?_)
                · replace h := if_yes hq h
                  refine lv_bipush (v := Int32.ofInt (-9 : Int)) hx hb dX9_crossing_81 (by decide) ?_
                  obtain rfl := Option.some.inj h
                  exact hr _ _ _ _ dX9_crossing_83 hP hS
                · replace h := if_no hq h
                  refine lv_iload_n hx hb dX9_crossing_77 rfl (lv_at hl 1 rfl) ?_
                  refine lv_goto (tgt := 83) hx hb dX9_crossing_78 (by decide) ?_
                  obtain rfl := Option.some.inj h
                  exact hr _ _ _ _ dX9_crossing_83 hP hS
              · replace h := if_no hq h
                refine lv_iload_n hx hb dX9_crossing_64 rfl (lv_at hl 2 rfl) ?_
                refine lv_goto (tgt := 83) hx hb dX9_crossing_65 (by decide) ?_
                obtain rfl := Option.some.inj h
                exact hr _ _ _ _ dX9_crossing_83 hP hS
          · replace h := if_yes hq h
            refine lv_bipush (v := Int32.ofInt (-9 : Int)) hx hb dX9_crossing_47 (by decide) ?_
            obtain rfl := Option.some.inj h
            exact hr _ _ _ _ dX9_crossing_49 hP hS
        · replace h := if_yes hq h
          refine lv_bipush (v := Int32.ofInt (-3 : Int)) hx hb dX9_crossing_35 (by decide) ?_
          obtain rfl := Option.some.inj h
          exact hr _ _ _ _ dX9_crossing_37 hP hS
      · replace h := if_yes hq h
        refine lv_bipush (v := Int32.ofInt (-2 : Int)) hx hb dX9_crossing_27 (by decide) ?_
        obtain rfl := Option.some.inj h
        exact hr _ _ _ _ dX9_crossing_29 hP hS
    · replace h := if_yes hq h
      refine lv_iconst (v := Int32.ofInt (-1 : Int)) hx hb dX9_crossing_16 (by decide) ?_
      obtain rfl := Option.some.inj h
      exact hr _ _ _ _ dX9_crossing_17 hP hS
abbrev rm_X9_crossing : Room := { frames := 9, cells := 0, slots := 0, locals := 227 }
theorem c_X9_crossing {l : Launch} {D : va_G} {a : Nat → Nat} {g : Nat → ClassId} {S : SZ} {v1 : Int} {v2 : Int} {v3 : Int} {Z1 : SZ} {r1 : Int} (h : f_X9_crossing S v1 v2 v3 = some (Z1, r1)) : MetI l D (tysWM g) (WM a g) E0 yX9_crossing cX9_crossing 4 (some .int) rm_X9_crossing [.ref (a 0), .int (Int32.ofInt v1), .int (Int32.ofInt v2), .int (Int32.ofInt v3)] (em S) (em Z1, Int32.ofInt r1) := mk_i (WM_same a g) (by decide) (em Z1, Int32.ofInt r1) (Nat.le_of_ble_eq_true rfl) (fun p e s m args below meth c A Q hc hE hr => t_X9_crossing (z := (Z1, r1)) hc hr S v1 v2 v3 h)
theorem k_X9_crossing : CalV RX9 yX9_crossing cX9_crossing 4 (some .int) rm_X9_crossing 3 := ⟨q_755, q_756, q_5, q_757, by decide +kernel, rfl, rfl⟩
set_option maxHeartbeats 4000000 in
set_option maxRecDepth 100000 in
theorem t_X9_isStroke {z : SZ × Int} (hc : Cx p R s m args c D (tysWM g) A (WM a g) cX9_isStroke 2 RX9 8 206) (hr : Rtz p l e R s m args below meth c Q D A (WM a g) cX9_isStroke (em z.1, Int32.ofInt z.2)) : ∀ (S : SZ) (v1 : Int), f_X9_isStroke S v1 = some z → Go p l e R s m args below meth c Q D A (WM a g) 2 (em S) 0 [(0, .ref (a 0)), (1, .int (Int32.ofInt v1))] [] := by
  obtain ⟨⟨hx, hb, hml, hown, hts⟩, -, -, -, hnf, hno⟩ := id hc
  intro S v1 h H locs ls hP hS hl
  rw [f_X9_isStroke] at h
  replace hl : lv_has ls 2 [(0, .ref (a 0)), (1, .int (Int32.ofInt v1))] := hl
  refine lv_aload_n hx hb dX9_isStroke_0 rfl (lv_at hl 0 rfl) ?_
  obtain ⟨S1, hk2, h⟩ := ob1_at h
  refine cl_Vv (As := []) (rest := []) hc k_X9_findAll q_540 (c_X9_findAll hk2) hP hS (WM_0 a g (em S)) rfl rfl rfl hl (Nat.le_of_ble_eq_true rfl) dX9_isStroke_1 (Nat.le_of_ble_eq_true rfl) (Nat.le_of_ble_eq_true rfl) rfl (fun H locs hP hS => ?_)
  refine lv_iload_n hx hb dX9_isStroke_4 rfl (lv_at hl 1 rfl) ?_
  refine lv_iconst (v := Int32.ofInt (0 : Int)) hx hb dX9_isStroke_5 (by decide) ?_
  refine lv_aload_n hx hb dX9_isStroke_6 rfl (lv_at hl 0 rfl) ?_
  refine gzWM_HiddenEdgesModel_strokes hc hP q_598 dX9_isStroke_7 ?_
  refine lv_iconst (v := Int32.ofInt (1 : Int)) hx hb dX9_isStroke_10 (by decide) ?_
  refine z_isub hx hb dX9_isStroke_11 ?_
  obtain ⟨S3, x5, hk4, h⟩ := ob2_at h
  refine cl_Si (As := [.int (Int32.ofInt v1), .int (Int32.ofInt (0 : Int)), .int (Int32.ofInt ((zi S1 8) - (1 : Int)))]) (rest := []) hc k_X9_within q_158 (c_X9_within hk4) hP hS rfl hl (Nat.le_of_ble_eq_true rfl) dX9_isStroke_12 (Nat.le_of_ble_eq_true rfl) (Nat.le_of_ble_eq_true rfl) rfl (fun H locs hP hS => ?_)
  obtain ⟨h6, h⟩ := chk_at h
  obtain rfl := Option.some.inj h
  exact hr (bit_of h6) _ _ _ _ dX9_isStroke_15 hP hS
abbrev rm_X9_isStroke : Room := { frames := 8, cells := 0, slots := 0, locals := 206 }
theorem c_X9_isStroke {l : Launch} {D : va_G} {a : Nat → Nat} {g : Nat → ClassId} {S : SZ} {v1 : Int} {Z1 : SZ} {r1 : Int} (h : f_X9_isStroke S v1 = some (Z1, r1)) : MetI l D (tysWM g) (WM a g) E0 yX9_isStroke cX9_isStroke 2 (some .boolean) rm_X9_isStroke [.ref (a 0), .int (Int32.ofInt v1)] (em S) (em Z1, Int32.ofInt r1) := mk_z (WM_same a g) (by decide) (em Z1, Int32.ofInt r1) (Nat.le_of_ble_eq_true rfl) (fun p e s m args below meth c A Q hc hE hr => t_X9_isStroke (z := (Z1, r1)) hc hr S v1 h)
theorem k_X9_isStroke : CalV RX9 yX9_isStroke cX9_isStroke 2 (some .boolean) rm_X9_isStroke 1 := ⟨q_792, q_793, q_5, q_794, by decide +kernel, rfl, rfl⟩
end W
