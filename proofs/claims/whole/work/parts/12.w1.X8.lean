section W
variable {p : Program} {l : Launch} {e : Env} {R : Room} {s : State} {m : MethodId} {args : Array Value} {below : List Frame} {meth : Method} {c : Code} {Q : State → Prop} {D : va_G} {A : Nat → Prop} {a : Nat → Nat} {g : Nat → ClassId}
set_option maxHeartbeats 4000000 in
set_option maxRecDepth 100000 in
theorem t_X8_point {z : SZ × Int} (hc : Cx p R s m args c D (tysWX g) A (WX a g) cX8_point 4 RX8 2 47) (hr : Rti p l e R s m args below meth c Q D A (WX a g) cX8_point (em z.1, Int32.ofInt z.2)) : ∀ (S : SZ) (v1 : Int) (v2 : Int) (v3 : Int), f_X8_point S v1 v2 v3 = some z → Go p l e R s m args below meth c Q D A (WX a g) 4 (em S) 0 [(0, .ref (a 0)), (1, .int (Int32.ofInt v1)), (2, .int (Int32.ofInt v2)), (3, .int (Int32.ofInt v3))] [] := by
  obtain ⟨⟨hx, hb, hml, hown, hts⟩, -, -, -, hnf, hno⟩ := id hc
  intro S v1 v2 v3 h H locs ls hP hS hl
  rw [f_X8_point] at h
  replace hl : lv_has ls 4 [(0, .ref (a 0)), (1, .int (Int32.ofInt v1)), (2, .int (Int32.ofInt v2)), (3, .int (Int32.ofInt v3))] := hl
  refine lv_iload_n hx hb dX8_point_0 rfl (lv_at hl 1 rfl) ?_
  refine lv_iload_n hx hb dX8_point_1 rfl (lv_at hl 2 rfl) ?_
  refine lv_iload_n hx hb dX8_point_2 rfl (lv_at hl 3 rfl) ?_
  obtain ⟨S1, x3, hk2, h⟩ := ob2_at h
  refine cl_Si (As := [.int (Int32.ofInt v1), .int (Int32.ofInt v2), .int (Int32.ofInt v3)]) (rest := []) hc k_X8_isPlace q_127 (c_X8_isPlace hk2) hP hS rfl hl (Nat.le_of_ble_eq_true rfl) dX8_point_3 (Nat.le_of_ble_eq_true rfl) (Nat.le_of_ble_eq_true rfl) rfl (fun H locs hP hS => ?_)
  obtain ⟨h4, h⟩ := chk_at h
  refine z_if_ne (tgt := 12) hx hb h4 dX8_point_6 (by decide) (fun hq => ?_) (fun hq => ?_)
  · replace h := if_no hq h
    refine lv_aload_n hx hb dX8_point_12 rfl (lv_at hl 0 rfl) ?_
    refine gfWX_HiddenEdges_mesh hc hP q_15 dX8_point_13 ?_
    refine lv_iload_n hx hb dX8_point_16 rfl (lv_at hl 1 rfl) ?_
    refine lv_iload_n hx hb dX8_point_17 rfl (lv_at hl 2 rfl) ?_
    refine lv_iload_n hx hb dX8_point_18 rfl (lv_at hl 3 rfl) ?_
    obtain ⟨S5, x7, hk6, h⟩ := ob2_at h
    refine cl_Vi (As := [.int (Int32.ofInt v1), .int (Int32.ofInt v2), .int (Int32.ofInt v3)]) (rest := []) hc k_X4_pointAt q_133 (c_X4_pointAt hk6) hP hS (WX_1 a g (em S1)) rfl rfl rfl hl (Nat.le_of_ble_eq_true rfl) dX8_point_19 (Nat.le_of_ble_eq_true rfl) (Nat.le_of_ble_eq_true rfl) rfl (fun H locs hP hS => ?_)
    obtain ⟨h8, h⟩ := chk_at h
    refine z_if_lt (tgt := 28) hx hb h8 dX8_point_22 (by decide) (fun hq => ?_) (fun hq => ?_)
    · replace h := if_yes hq h
      refine lv_aload_n hx hb dX8_point_28 rfl (lv_at hl 0 rfl) ?_
      refine gfWX_HiddenEdges_mesh hc hP q_15 dX8_point_29 ?_
      refine gzWX_Mesh_points hc hP q_126 dX8_point_32 ?_
      refine lv_bipush (v := Int32.ofInt (16 : Int)) hx hb dX8_point_35 (by decide) ?_
      obtain ⟨h9, h⟩ := chk_at h
      refine z_icmp_lt (tgt := 43) hx hb h9 (by decide) dX8_point_37 (by decide) (fun hq => ?_) (fun hq => ?_)
      · replace h := if_yes hq h
        refine lv_aload_n hx hb dX8_point_43 rfl (lv_at hl 0 rfl) ?_
        obtain ⟨S10, hk11, h⟩ := ob1_at h
        refine cl_Vv (As := []) (rest := []) hc k_X8_forget q_138 (c_X8_forget hk11) hP hS (WX_0 a g (em S5)) rfl rfl rfl hl (Nat.le_of_ble_eq_true rfl) dX8_point_44 (Nat.le_of_ble_eq_true rfl) (Nat.le_of_ble_eq_true rfl) rfl (fun H locs hP hS => ?_)
        refine lv_aload_n hx hb dX8_point_47 rfl (lv_at hl 0 rfl) ?_
        refine gfWX_HiddenEdges_mesh hc hP q_15 dX8_point_48 ?_
        refine lv_iload_n hx hb dX8_point_51 rfl (lv_at hl 1 rfl) ?_
        refine lv_iload_n hx hb dX8_point_52 rfl (lv_at hl 2 rfl) ?_
        refine lv_iload_n hx hb dX8_point_53 rfl (lv_at hl 3 rfl) ?_
        obtain ⟨S12, x14, hk13, h⟩ := ob2_at h
        refine cl_Vi (As := [.int (Int32.ofInt v1), .int (Int32.ofInt v2), .int (Int32.ofInt v3)]) (rest := []) hc k_X4_addPoint q_142 (c_X4_addPoint hk13) hP hS (WX_1 a g (em S10)) rfl rfl rfl hl (Nat.le_of_ble_eq_true rfl) dX8_point_54 (Nat.le_of_ble_eq_true rfl) (Nat.le_of_ble_eq_true rfl) rfl (fun H locs hP hS => ?_)
        obtain rfl := Option.some.inj h
        exact hr _ _ _ _ dX8_point_57 hP hS
      · replace h := if_no hq h
        refine lv_bipush (v := Int32.ofInt (-4 : Int)) hx hb dX8_point_40 (by decide) ?_
        obtain rfl := Option.some.inj h
        exact hr _ _ _ _ dX8_point_42 hP hS
    · replace h := if_no hq h
      refine lv_bipush (v := Int32.ofInt (-3 : Int)) hx hb dX8_point_25 (by decide) ?_
      obtain rfl := Option.some.inj h
      exact hr _ _ _ _ dX8_point_27 hP hS
  · replace h := if_yes hq h
    refine lv_bipush (v := Int32.ofInt (-2 : Int)) hx hb dX8_point_9 (by decide) ?_
    obtain rfl := Option.some.inj h
    exact hr _ _ _ _ dX8_point_11 hP hS
abbrev rm_X8_point : Room := { frames := 2, cells := 0, slots := 0, locals := 47 }
theorem c_X8_point {l : Launch} {D : va_G} {a : Nat → Nat} {g : Nat → ClassId} {S : SZ} {v1 : Int} {v2 : Int} {v3 : Int} {Z1 : SZ} {r1 : Int} (h : f_X8_point S v1 v2 v3 = some (Z1, r1)) : MetI l D (tysWX g) (WX a g) E0 yX8_point cX8_point 4 (some .int) rm_X8_point [.ref (a 0), .int (Int32.ofInt v1), .int (Int32.ofInt v2), .int (Int32.ofInt v3)] (em S) (em Z1, Int32.ofInt r1) := mk_i (WX_same a g) (by decide) (em Z1, Int32.ofInt r1) (Nat.le_of_ble_eq_true rfl) (fun p e s m args below meth c A Q hc hE hr => t_X8_point (z := (Z1, r1)) hc hr S v1 v2 v3 h)
theorem k_X8_point : CalV RX8 yX8_point cX8_point 4 (some .int) rm_X8_point 3 := ⟨q_123, q_124, q_2, q_125, by decide +kernel, rfl, rfl⟩
set_option maxHeartbeats 4000000 in
set_option maxRecDepth 100000 in
theorem t_X8_face {z : SZ × Int} (hc : Cx p R s m args c D (tysWX g) A (WX a g) cX8_face 4 RX8 3 68) (hr : Rti p l e R s m args below meth c Q D A (WX a g) cX8_face (em z.1, Int32.ofInt z.2)) : ∀ (S : SZ) (v1 : Int) (v2 : Int) (v3 : Int), f_X8_face S v1 v2 v3 = some z → Go p l e R s m args below meth c Q D A (WX a g) 4 (em S) 0 [(0, .ref (a 0)), (1, .int (Int32.ofInt v1)), (2, .int (Int32.ofInt v2)), (3, .int (Int32.ofInt v3))] [] := by
  obtain ⟨⟨hx, hb, hml, hown, hts⟩, -, -, -, hnf, hno⟩ := id hc
  intro S v1 v2 v3 h H locs ls hP hS hl
  rw [f_X8_face] at h
  replace hl : lv_has ls 4 [(0, .ref (a 0)), (1, .int (Int32.ofInt v1)), (2, .int (Int32.ofInt v2)), (3, .int (Int32.ofInt v3))] := hl
  refine lv_aload_n hx hb dX8_face_0 rfl (lv_at hl 0 rfl) ?_
  refine gfWX_HiddenEdges_mesh hc hP q_15 dX8_face_1 ?_
  refine lv_iload_n hx hb dX8_face_4 rfl (lv_at hl 1 rfl) ?_
  obtain ⟨S1, x3, hk2, h⟩ := ob2_at h
  refine cl_Vi (As := [.int (Int32.ofInt v1)]) (rest := []) hc k_X4_hasPoint q_175 (c_X4_hasPoint hk2) hP hS (WX_1 a g (em S)) rfl rfl rfl hl (Nat.le_of_ble_eq_true rfl) dX8_face_5 (Nat.le_of_ble_eq_true rfl) (Nat.le_of_ble_eq_true rfl) rfl (fun H locs hP hS => ?_)
  obtain ⟨h4, h⟩ := chk_at h
  refine z_if_eq (tgt := 33) hx hb h4 dX8_face_8 (by decide) (fun hq => ?_) (fun hq => ?_)
  · replace h := if_yes hq h
    refine lv_iconst (v := Int32.ofInt (-1 : Int)) hx hb dX8_face_33 (by decide) ?_
    obtain rfl := Option.some.inj h
    exact hr _ _ _ _ dX8_face_34 hP hS
  · replace h := if_no hq h
    refine lv_aload_n hx hb dX8_face_11 rfl (lv_at hl 0 rfl) ?_
    refine gfWX_HiddenEdges_mesh hc hP q_15 dX8_face_12 ?_
    refine lv_iload_n hx hb dX8_face_15 rfl (lv_at hl 2 rfl) ?_
    obtain ⟨S5, x7, hk6, h⟩ := ob2_at h
    refine cl_Vi (As := [.int (Int32.ofInt v2)]) (rest := []) hc k_X4_hasPoint q_175 (c_X4_hasPoint hk6) hP hS (WX_1 a g (em S1)) rfl rfl rfl hl (Nat.le_of_ble_eq_true rfl) dX8_face_16 (Nat.le_of_ble_eq_true rfl) (Nat.le_of_ble_eq_true rfl) rfl (fun H locs hP hS => ?_)
    obtain ⟨h8, h⟩ := chk_at h
    refine z_if_eq (tgt := 33) hx hb h8 dX8_face_19 (by decide) (fun hq => ?_) (fun hq => ?_)
    · replace h := if_yes hq h
      refine lv_iconst (v := Int32.ofInt (-1 : Int)) hx hb dX8_face_33 (by decide) ?_
      obtain rfl := Option.some.inj h
      exact hr _ _ _ _ dX8_face_34 hP hS
    · replace h := if_no hq h
      refine lv_aload_n hx hb dX8_face_22 rfl (lv_at hl 0 rfl) ?_
      refine gfWX_HiddenEdges_mesh hc hP q_15 dX8_face_23 ?_
      refine lv_iload_n hx hb dX8_face_26 rfl (lv_at hl 3 rfl) ?_
      obtain ⟨S9, x11, hk10, h⟩ := ob2_at h
      refine cl_Vi (As := [.int (Int32.ofInt v3)]) (rest := []) hc k_X4_hasPoint q_175 (c_X4_hasPoint hk10) hP hS (WX_1 a g (em S5)) rfl rfl rfl hl (Nat.le_of_ble_eq_true rfl) dX8_face_27 (Nat.le_of_ble_eq_true rfl) (Nat.le_of_ble_eq_true rfl) rfl (fun H locs hP hS => ?_)
      obtain ⟨h12, h⟩ := chk_at h
      refine z_if_ne (tgt := 35) hx hb h12 dX8_face_30 (by decide) (fun hq => ?_) (fun hq => ?_)
      · replace h := if_no hq h
        refine lv_aload_n hx hb dX8_face_35 rfl (lv_at hl 0 rfl) ?_
        refine gfWX_HiddenEdges_mesh hc hP q_15 dX8_face_36 ?_
        refine lv_iload_n hx hb dX8_face_39 rfl (lv_at hl 1 rfl) ?_
        refine lv_iload_n hx hb dX8_face_40 rfl (lv_at hl 2 rfl) ?_
        refine lv_iload_n hx hb dX8_face_41 rfl (lv_at hl 3 rfl) ?_
        obtain ⟨S13, x15, hk14, h⟩ := ob2_at h
        refine cl_Vi (As := [.int (Int32.ofInt v1), .int (Int32.ofInt v2), .int (Int32.ofInt v3)]) (rest := []) hc k_X4_onLine q_179 (c_X4_onLine hk14) hP hS (WX_1 a g (em S9)) rfl rfl rfl hl (Nat.le_of_ble_eq_true rfl) dX8_face_42 (Nat.le_of_ble_eq_true rfl) (Nat.le_of_ble_eq_true rfl) rfl (fun H locs hP hS => ?_)
        obtain ⟨h16, h⟩ := chk_at h
        refine z_if_ne (tgt := 61) hx hb h16 dX8_face_45 (by decide) (fun hq => ?_) (fun hq => ?_)
        · replace h := if_no hq h
          refine lv_bipush (v := Int32.ofInt (-3 : Int)) hx hb dX8_face_61 (by decide) ?_
          obtain rfl := Option.some.inj h
          exact hr _ _ _ _ dX8_face_63 hP hS
        · replace h := if_yes hq h
          refine lv_aload_n hx hb dX8_face_48 rfl (lv_at hl 0 rfl) ?_
          refine gfWX_HiddenEdges_mesh hc hP q_15 dX8_face_49 ?_
          refine lv_iload_n hx hb dX8_face_52 rfl (lv_at hl 1 rfl) ?_
          refine lv_iload_n hx hb dX8_face_53 rfl (lv_at hl 2 rfl) ?_
          refine lv_iload_n hx hb dX8_face_54 rfl (lv_at hl 3 rfl) ?_
          obtain ⟨S17, x19, hk18, h⟩ := ob2_at h
          refine cl_Vi (As := [.int (Int32.ofInt v1), .int (Int32.ofInt v2), .int (Int32.ofInt v3)]) (rest := []) hc k_X4_hasFaceOn q_186 (c_X4_hasFaceOn hk18) hP hS (WX_1 a g (em S13)) rfl rfl rfl hl (Nat.le_of_ble_eq_true rfl) dX8_face_55 (Nat.le_of_ble_eq_true rfl) (Nat.le_of_ble_eq_true rfl) rfl (fun H locs hP hS => ?_)
          obtain ⟨h20, h⟩ := chk_at h
          refine z_if_eq (tgt := 64) hx hb h20 dX8_face_58 (by decide) (fun hq => ?_) (fun hq => ?_)
          · replace h := if_yes hq h
            refine lv_aload_n hx hb dX8_face_64 rfl (lv_at hl 0 rfl) ?_
            refine gfWX_HiddenEdges_mesh hc hP q_15 dX8_face_65 ?_
            refine gzWX_Mesh_faces hc hP q_174 dX8_face_68 ?_
            refine lv_bipush (v := Int32.ofInt (24 : Int)) hx hb dX8_face_71 (by decide) ?_
            obtain ⟨h21, h⟩ := chk_at h
            refine z_icmp_lt (tgt := 79) hx hb h21 (by decide) dX8_face_73 (by decide) (fun hq => ?_) (fun hq => ?_)
            · replace h := if_yes hq h
              refine lv_aload_n hx hb dX8_face_79 rfl (lv_at hl 0 rfl) ?_
              obtain ⟨S22, hk23, h⟩ := ob1_at h
              refine cl_Vv (As := []) (rest := []) hc k_X8_forget q_138 (c_X8_forget hk23) hP hS (WX_0 a g (em S17)) rfl rfl rfl hl (Nat.le_of_ble_eq_true rfl) dX8_face_80 (Nat.le_of_ble_eq_true rfl) (Nat.le_of_ble_eq_true rfl) rfl (fun H locs hP hS => ?_)
              refine lv_aload_n hx hb dX8_face_83 rfl (lv_at hl 0 rfl) ?_
              refine gfWX_HiddenEdges_mesh hc hP q_15 dX8_face_84 ?_
              refine lv_iload_n hx hb dX8_face_87 rfl (lv_at hl 1 rfl) ?_
              refine lv_iload_n hx hb dX8_face_88 rfl (lv_at hl 2 rfl) ?_
              refine lv_iload_n hx hb dX8_face_89 rfl (lv_at hl 3 rfl) ?_
              obtain ⟨S24, x26, hk25, h⟩ := ob2_at h
              refine cl_Vi (As := [.int (Int32.ofInt v1), .int (Int32.ofInt v2), .int (Int32.ofInt v3)]) (rest := []) hc k_X4_addFace q_199 (c_X4_addFace hk25) hP hS (WX_1 a g (em S22)) rfl rfl rfl hl (Nat.le_of_ble_eq_true rfl) dX8_face_90 (Nat.le_of_ble_eq_true rfl) (Nat.le_of_ble_eq_true rfl) rfl (fun H locs hP hS => ?_)
              obtain rfl := Option.some.inj h
              exact hr _ _ _ _ dX8_face_93 hP hS
            · replace h := if_no hq h
              refine lv_bipush (v := Int32.ofInt (-4 : Int)) hx hb dX8_face_76 (by decide) ?_
              obtain rfl := Option.some.inj h
              exact hr _ _ _ _ dX8_face_78 hP hS
          · replace h := if_no hq h
            refine lv_bipush (v := Int32.ofInt (-3 : Int)) hx hb dX8_face_61 (by decide) ?_
            obtain rfl := Option.some.inj h
            exact hr _ _ _ _ dX8_face_63 hP hS
      · replace h := if_yes hq h
        refine lv_iconst (v := Int32.ofInt (-1 : Int)) hx hb dX8_face_33 (by decide) ?_
        obtain rfl := Option.some.inj h
        exact hr _ _ _ _ dX8_face_34 hP hS
abbrev rm_X8_face : Room := { frames := 3, cells := 0, slots := 0, locals := 68 }
theorem c_X8_face {l : Launch} {D : va_G} {a : Nat → Nat} {g : Nat → ClassId} {S : SZ} {v1 : Int} {v2 : Int} {v3 : Int} {Z1 : SZ} {r1 : Int} (h : f_X8_face S v1 v2 v3 = some (Z1, r1)) : MetI l D (tysWX g) (WX a g) E0 yX8_face cX8_face 4 (some .int) rm_X8_face [.ref (a 0), .int (Int32.ofInt v1), .int (Int32.ofInt v2), .int (Int32.ofInt v3)] (em S) (em Z1, Int32.ofInt r1) := mk_i (WX_same a g) (by decide) (em Z1, Int32.ofInt r1) (Nat.le_of_ble_eq_true rfl) (fun p e s m args below meth c A Q hc hE hr => t_X8_face (z := (Z1, r1)) hc hr S v1 v2 v3 h)
theorem k_X8_face : CalV RX8 yX8_face cX8_face 4 (some .int) rm_X8_face 3 := ⟨q_171, q_172, q_2, q_173, by decide +kernel, rfl, rfl⟩
set_option maxHeartbeats 4000000 in
set_option maxRecDepth 100000 in
theorem t_X8_wire {z : SZ × Int} (hc : Cx p R s m args c D (tysWX g) A (WX a g) cX8_wire 3 RX8 1 25) (hr : Rti p l e R s m args below meth c Q D A (WX a g) cX8_wire (em z.1, Int32.ofInt z.2)) : ∀ (S : SZ) (v1 : Int) (v2 : Int), f_X8_wire S v1 v2 = some z → Go p l e R s m args below meth c Q D A (WX a g) 3 (em S) 0 [(0, .ref (a 0)), (1, .int (Int32.ofInt v1)), (2, .int (Int32.ofInt v2))] [] := by
  obtain ⟨⟨hx, hb, hml, hown, hts⟩, -, -, -, hnf, hno⟩ := id hc
  intro S v1 v2 h H locs ls hP hS hl
  rw [f_X8_wire] at h
  replace hl : lv_has ls 3 [(0, .ref (a 0)), (1, .int (Int32.ofInt v1)), (2, .int (Int32.ofInt v2))] := hl
  refine lv_aload_n hx hb dX8_wire_0 rfl (lv_at hl 0 rfl) ?_
  refine gfWX_HiddenEdges_mesh hc hP q_15 dX8_wire_1 ?_
  refine lv_iload_n hx hb dX8_wire_4 rfl (lv_at hl 1 rfl) ?_
  obtain ⟨S1, x3, hk2, h⟩ := ob2_at h
  refine cl_Vi (As := [.int (Int32.ofInt v1)]) (rest := []) hc k_X4_hasPoint q_175 (c_X4_hasPoint hk2) hP hS (WX_1 a g (em S)) rfl rfl rfl hl (Nat.le_of_ble_eq_true rfl) dX8_wire_5 (Nat.le_of_ble_eq_true rfl) (Nat.le_of_ble_eq_true rfl) rfl (fun H locs hP hS => ?_)
  obtain ⟨h4, h⟩ := chk_at h
  refine z_if_eq (tgt := 22) hx hb h4 dX8_wire_8 (by decide) (fun hq => ?_) (fun hq => ?_)
  · replace h := if_yes hq h
    refine lv_iconst (v := Int32.ofInt (-1 : Int)) hx hb dX8_wire_22 (by decide) ?_
    obtain rfl := Option.some.inj h
    exact hr _ _ _ _ dX8_wire_23 hP hS
  · replace h := if_no hq h
    refine lv_aload_n hx hb dX8_wire_11 rfl (lv_at hl 0 rfl) ?_
    refine gfWX_HiddenEdges_mesh hc hP q_15 dX8_wire_12 ?_
    refine lv_iload_n hx hb dX8_wire_15 rfl (lv_at hl 2 rfl) ?_
    obtain ⟨S5, x7, hk6, h⟩ := ob2_at h
    refine cl_Vi (As := [.int (Int32.ofInt v2)]) (rest := []) hc k_X4_hasPoint q_175 (c_X4_hasPoint hk6) hP hS (WX_1 a g (em S1)) rfl rfl rfl hl (Nat.le_of_ble_eq_true rfl) dX8_wire_16 (Nat.le_of_ble_eq_true rfl) (Nat.le_of_ble_eq_true rfl) rfl (fun H locs hP hS => ?_)
    obtain ⟨h8, h⟩ := chk_at h
    refine z_if_ne (tgt := 24) hx hb h8 dX8_wire_19 (by decide) (fun hq => ?_) (fun hq => ?_)
    · replace h := if_no hq h
      refine lv_iload_n hx hb dX8_wire_24 rfl (lv_at hl 1 rfl) ?_
      refine lv_iload_n hx hb dX8_wire_25 rfl (lv_at hl 2 rfl) ?_
      obtain ⟨h9, h⟩ := chk_at h
      obtain ⟨h10, h⟩ := chk_at h
      refine z_icmp_eq (tgt := 41) hx hb h9 h10 dX8_wire_26 (by decide) (fun hq => ?_) (fun hq => ?_)
      · replace h := if_yes hq h
        refine lv_bipush (v := Int32.ofInt (-3 : Int)) hx hb dX8_wire_41 (by decide) ?_
        obtain rfl := Option.some.inj h
        exact hr _ _ _ _ dX8_wire_43 hP hS
      · replace h := if_no hq h
        refine lv_aload_n hx hb dX8_wire_29 rfl (lv_at hl 0 rfl) ?_
        refine gfWX_HiddenEdges_mesh hc hP q_15 dX8_wire_30 ?_
        refine lv_iload_n hx hb dX8_wire_33 rfl (lv_at hl 1 rfl) ?_
        refine lv_iload_n hx hb dX8_wire_34 rfl (lv_at hl 2 rfl) ?_
        obtain ⟨S11, x13, hk12, h⟩ := ob2_at h
        refine cl_Vi (As := [.int (Int32.ofInt v1), .int (Int32.ofInt v2)]) (rest := []) hc k_X4_hasWire q_233 (c_X4_hasWire hk12) hP hS (WX_1 a g (em S5)) rfl rfl rfl hl (Nat.le_of_ble_eq_true rfl) dX8_wire_35 (Nat.le_of_ble_eq_true rfl) (Nat.le_of_ble_eq_true rfl) rfl (fun H locs hP hS => ?_)
        obtain ⟨h14, h⟩ := chk_at h
        refine z_if_eq (tgt := 44) hx hb h14 dX8_wire_38 (by decide) (fun hq => ?_) (fun hq => ?_)
        · replace h := if_yes hq h
          refine lv_aload_n hx hb dX8_wire_44 rfl (lv_at hl 0 rfl) ?_
          refine gfWX_HiddenEdges_mesh hc hP q_15 dX8_wire_45 ?_
          refine gzWX_Mesh_wires hc hP q_232 dX8_wire_48 ?_
          refine lv_bipush (v := Int32.ofInt (8 : Int)) hx hb dX8_wire_51 (by decide) ?_
          obtain ⟨h15, h⟩ := chk_at h
          refine z_icmp_lt (tgt := 59) hx hb h15 (by decide) dX8_wire_53 (by decide) (fun hq => ?_) (fun hq => ?_)
          · replace h := if_yes hq h
            refine lv_aload_n hx hb dX8_wire_59 rfl (lv_at hl 0 rfl) ?_
            obtain ⟨S16, hk17, h⟩ := ob1_at h
            refine cl_Vv (As := []) (rest := []) hc k_X8_forget q_138 (c_X8_forget hk17) hP hS (WX_0 a g (em S11)) rfl rfl rfl hl (Nat.le_of_ble_eq_true rfl) dX8_wire_60 (Nat.le_of_ble_eq_true rfl) (Nat.le_of_ble_eq_true rfl) rfl (fun H locs hP hS => ?_)
            refine lv_aload_n hx hb dX8_wire_63 rfl (lv_at hl 0 rfl) ?_
            refine gfWX_HiddenEdges_mesh hc hP q_15 dX8_wire_64 ?_
            refine lv_iload_n hx hb dX8_wire_67 rfl (lv_at hl 1 rfl) ?_
            refine lv_iload_n hx hb dX8_wire_68 rfl (lv_at hl 2 rfl) ?_
            obtain ⟨S18, x20, hk19, h⟩ := ob2_at h
            refine cl_Vi (As := [.int (Int32.ofInt v1), .int (Int32.ofInt v2)]) (rest := []) hc k_X4_addWire q_238 (c_X4_addWire hk19) hP hS (WX_1 a g (em S16)) rfl rfl rfl hl (Nat.le_of_ble_eq_true rfl) dX8_wire_69 (Nat.le_of_ble_eq_true rfl) (Nat.le_of_ble_eq_true rfl) rfl (fun H locs hP hS => ?_)
            obtain rfl := Option.some.inj h
            exact hr _ _ _ _ dX8_wire_72 hP hS
          · replace h := if_no hq h
            refine lv_bipush (v := Int32.ofInt (-4 : Int)) hx hb dX8_wire_56 (by decide) ?_
            obtain rfl := Option.some.inj h
            exact hr _ _ _ _ dX8_wire_58 hP hS
        · replace h := if_no hq h
          refine lv_bipush (v := Int32.ofInt (-3 : Int)) hx hb dX8_wire_41 (by decide) ?_
          obtain rfl := Option.some.inj h
          exact hr _ _ _ _ dX8_wire_43 hP hS
    · replace h := if_yes hq h
      refine lv_iconst (v := Int32.ofInt (-1 : Int)) hx hb dX8_wire_22 (by decide) ?_
      obtain rfl := Option.some.inj h
      exact hr _ _ _ _ dX8_wire_23 hP hS
abbrev rm_X8_wire : Room := { frames := 1, cells := 0, slots := 0, locals := 25 }
theorem c_X8_wire {l : Launch} {D : va_G} {a : Nat → Nat} {g : Nat → ClassId} {S : SZ} {v1 : Int} {v2 : Int} {Z1 : SZ} {r1 : Int} (h : f_X8_wire S v1 v2 = some (Z1, r1)) : MetI l D (tysWX g) (WX a g) E0 yX8_wire cX8_wire 3 (some .int) rm_X8_wire [.ref (a 0), .int (Int32.ofInt v1), .int (Int32.ofInt v2)] (em S) (em Z1, Int32.ofInt r1) := mk_i (WX_same a g) (by decide) (em Z1, Int32.ofInt r1) (Nat.le_of_ble_eq_true rfl) (fun p e s m args below meth c A Q hc hE hr => t_X8_wire (z := (Z1, r1)) hc hr S v1 v2 h)
theorem k_X8_wire : CalV RX8 yX8_wire cX8_wire 3 (some .int) rm_X8_wire 2 := ⟨q_229, q_230, q_2, q_231, by decide +kernel, rfl, rfl⟩
set_option maxHeartbeats 4000000 in
set_option maxRecDepth 100000 in
theorem t_X8_block_p232 {z : SZ × Int} (hc : Cx p R s m args c D (tysWX g) A (WX a g) cX8_block 9 RX8 4 89) (hE : EB A s) (hr : Rti p l e R s m args below meth c Q D A (WX a g) cX8_block (em z.1, Int32.ofInt z.2)) : ∀ (fu : Nat) (S : SZ) (v7 : Int) (v8 : Int), f_X8_block_p232 fu S v7 v8 = some z → Go p l e R s m args below meth c Q D A (WX a g) 9 (em S) 232 [(0, .ref (a 0)), (7, .int (Int32.ofInt v7)), (8, .int (Int32.ofInt v8))] [] := by
  obtain ⟨⟨hx, hb, hml, hown, hts⟩, -, -, -, hnf, hno⟩ := id hc
  obtain ⟨tb, hZ, hT⟩ := id hE
  intro fu
  induction fu with
  | zero =>
    intro S v7 v8 h
    rw [f_X8_block_p232] at h
    cases h
  | succ fu ih =>
    intro S v7 v8 h H locs ls hP hS hl
    rw [f_X8_block_p232] at h
    refine lv_iload hx hb dX8_block_232 (lv_at hl 2 rfl) ?_
    refine lv_iconst (v := Int32.ofInt (2 : Int)) hx hb dX8_block_234 (by decide) ?_
    refine z_iadd hx hb dX8_block_235 ?_
    refine va_gets hx hb hZ hS hown (hts _ q_255) (fun _ h9 => h9) dX8_block_236 ?_
    refine va_tlen (v := Int32.ofInt (36 : Int)) hx hb hT hS (by decide) dX8_block_239 ?_
    obtain ⟨h1, h⟩ := chk_at h
    refine z_icmp_ge (tgt := 294) hx hb h1 (by decide) dX8_block_240 (by decide) (fun hq => ?_) (fun hq => ?_)
    · replace h := if_yes hq h
      refine lv_iload hx hb dX8_block_294 (lv_at hl 1 rfl) ?_
      obtain rfl := Option.some.inj h
      exact hr _ _ _ _ dX8_block_296 hP hS
    · replace h := if_no hq h
      refine lv_aload_n hx hb dX8_block_243 rfl (lv_at hl 0 rfl) ?_
      refine gfWX_HiddenEdges_mesh hc hP q_15 dX8_block_244 ?_
      refine lv_aload_n hx hb dX8_block_247 rfl (lv_at hl 0 rfl) ?_
      refine gfWX_HiddenEdges_corner hc hP q_41 dX8_block_248 ?_
      refine va_gets hx hb hZ hS hown (hts _ q_255) (fun _ h9 => h9) dX8_block_251 ?_
      refine lv_iload hx hb dX8_block_254 (lv_at hl 2 rfl) ?_
      obtain ⟨h2, h⟩ := chk_at h
      refine zt_blk hx hb hT hS h2 dX8_block_256 ?_
      obtain ⟨h3, h⟩ := chk_at h
      refine azWX_HiddenEdges_corner hc hP h3 dX8_block_257 ?_
      refine lv_aload_n hx hb dX8_block_258 rfl (lv_at hl 0 rfl) ?_
      refine gfWX_HiddenEdges_corner hc hP q_41 dX8_block_259 ?_
      refine va_gets hx hb hZ hS hown (hts _ q_255) (fun _ h9 => h9) dX8_block_262 ?_
      refine lv_iload hx hb dX8_block_265 (lv_at hl 2 rfl) ?_
      refine lv_iconst (v := Int32.ofInt (1 : Int)) hx hb dX8_block_267 (by decide) ?_
      refine z_iadd hx hb dX8_block_268 ?_
      obtain ⟨h4, h⟩ := chk_at h
      refine zt_blk hx hb hT hS h4 dX8_block_269 ?_
      obtain ⟨h5, h⟩ := chk_at h
      refine azWX_HiddenEdges_corner hc hP h5 dX8_block_270 ?_
      refine lv_aload_n hx hb dX8_block_271 rfl (lv_at hl 0 rfl) ?_
      refine gfWX_HiddenEdges_corner hc hP q_41 dX8_block_272 ?_
      refine va_gets hx hb hZ hS hown (hts _ q_255) (fun _ h9 => h9) dX8_block_275 ?_
      refine lv_iload hx hb dX8_block_278 (lv_at hl 2 rfl) ?_
      refine lv_iconst (v := Int32.ofInt (2 : Int)) hx hb dX8_block_280 (by decide) ?_
      refine z_iadd hx hb dX8_block_281 ?_
      obtain ⟨h6, h⟩ := chk_at h
      refine zt_blk hx hb hT hS h6 dX8_block_282 ?_
      obtain ⟨h7, h⟩ := chk_at h
      refine azWX_HiddenEdges_corner hc hP h7 dX8_block_283 ?_
      obtain ⟨S8, x10, hk9, h⟩ := ob2_at h
      refine cl_Vi (As := [.int (Int32.ofInt (za S 0 ((BLKz (v8).toNat)).toNat)), .int (Int32.ofInt (za S 0 ((BLKz ((v8 + (1 : Int))).toNat)).toNat)), .int (Int32.ofInt (za S 0 ((BLKz ((v8 + (2 : Int))).toNat)).toNat))]) (rest := []) hc k_X4_addFace q_199 (c_X4_addFace hk9) hP hS (WX_1 a g (em S)) rfl rfl rfl hl (Nat.le_of_ble_eq_true rfl) dX8_block_284 (Nat.le_of_ble_eq_true rfl) (Nat.le_of_ble_eq_true rfl) rfl (fun H locs hP hS => ?_)
      refine lv_pop hx hb dX8_block_287 rfl ?_
      obtain ⟨x11, ex11⟩ : ∃ y : Int, y = v8 + (3 : Int) := ⟨_, rfl⟩
      replace h := olet_at ex11 h
      refine lv_iinc (v := Int32.ofInt x11) (lv' := [(8, .int (Int32.ofInt x11)), (0, .ref (a 0)), (7, .int (Int32.ofInt v7))]) hx hb dX8_block_288 hl (k := 2) rfl (by rw [ex11, Int32.ofInt_add]) (by decide) rfl (fun ls hl => ?_)
      refine lv_goto (tgt := 232) hx hb dX8_block_291 (by decide) ?_
      exact ih S8 v7 x11 h H locs ls hP hS (lv_sub hl [1, 2, 0] rfl)
set_option maxHeartbeats 4000000 in
set_option maxRecDepth 100000 in
theorem t_X8_block_p159 {z : SZ × Int} (hc : Cx p R s m args c D (tysWX g) A (WX a g) cX8_block 9 RX8 4 89) (hE : EB A s) (hr : Rti p l e R s m args below meth c Q D A (WX a g) cX8_block (em z.1, Int32.ofInt z.2)) : ∀ (fu : Nat) (S : SZ) (v1 : Int) (v2 : Int) (v3 : Int) (v4 : Int) (v5 : Int) (v6 : Int) (v7 : Int) (v8 : Int), f_X8_block_p159 fu S v1 v2 v3 v4 v5 v6 v7 v8 = some z → Go p l e R s m args below meth c Q D A (WX a g) 9 (em S) 159 [(0, .ref (a 0)), (1, .int (Int32.ofInt v1)), (2, .int (Int32.ofInt v2)), (3, .int (Int32.ofInt v3)), (4, .int (Int32.ofInt v4)), (5, .int (Int32.ofInt v5)), (6, .int (Int32.ofInt v6)), (7, .int (Int32.ofInt v7)), (8, .int (Int32.ofInt v8))] [] := by
  obtain ⟨⟨hx, hb, hml, hown, hts⟩, -, -, -, hnf, hno⟩ := id hc
  obtain ⟨tb, hZ, hT⟩ := id hE
  intro fu
  induction fu with
  | zero =>
    intro S v1 v2 v3 v4 v5 v6 v7 v8 h
    rw [f_X8_block_p159] at h
    cases h
  | succ fu ih =>
    intro S v1 v2 v3 v4 v5 v6 v7 v8 h H locs ls hP hS hl
    rw [f_X8_block_p159] at h
    refine lv_iload hx hb dX8_block_159 (lv_at hl 8 rfl) ?_
    refine lv_bipush (v := Int32.ofInt (8 : Int)) hx hb dX8_block_161 (by decide) ?_
    obtain ⟨h1, h⟩ := chk_at h
    refine z_icmp_ge (tgt := 229) hx hb h1 (by decide) dX8_block_163 (by decide) (fun hq => ?_) (fun hq => ?_)
    · replace h := if_yes hq h
      refine lv_iconst (v := Int32.ofInt (0 : Int)) hx hb dX8_block_229 (by decide) ?_
      refine lv_istore (lv' := [(8, .int (Int32.ofInt (0 : Int))), (0, .ref (a 0)), (1, .int (Int32.ofInt v1)), (2, .int (Int32.ofInt v2)), (3, .int (Int32.ofInt v3)), (4, .int (Int32.ofInt v4)), (5, .int (Int32.ofInt v5)), (6, .int (Int32.ofInt v6)), (7, .int (Int32.ofInt v7))]) hx hb dX8_block_230 hl (by decide) rfl (fun ls hl => ?_)
      exact t_X8_block_p232 hc hE hr FU S v7 (0 : Int) h H locs ls hP hS (lv_sub hl [1, 8, 0] rfl)
    · replace h := if_no hq h
      refine lv_aload_n hx hb dX8_block_166 rfl (lv_at hl 0 rfl) ?_
      refine gfWX_HiddenEdges_corner hc hP q_41 dX8_block_167 ?_
      refine lv_iload hx hb dX8_block_170 (lv_at hl 8 rfl) ?_
      obtain ⟨h2, h⟩ := chk_at h
      refine azWX_HiddenEdges_corner hc hP h2 dX8_block_172 ?_
      obtain ⟨h3, h⟩ := chk_at h
      refine z_if_ge (tgt := 223) hx hb h3 dX8_block_173 (by decide) (fun hq => ?_) (fun hq => ?_)
      · replace h := if_yes hq h
        obtain ⟨x4, ex4⟩ : ∃ y : Int, y = v8 + (1 : Int) := ⟨_, rfl⟩
        replace h := olet_at ex4 h
        refine lv_iinc (v := Int32.ofInt x4) (lv' := [(8, .int (Int32.ofInt x4)), (0, .ref (a 0)), (1, .int (Int32.ofInt v1)), (2, .int (Int32.ofInt v2)), (3, .int (Int32.ofInt v3)), (4, .int (Int32.ofInt v4)), (5, .int (Int32.ofInt v5)), (6, .int (Int32.ofInt v6)), (7, .int (Int32.ofInt v7))]) hx hb dX8_block_223 hl (k := 8) rfl (by rw [ex4, Int32.ofInt_add]) (by decide) rfl (fun ls hl => ?_)
        refine lv_goto (tgt := 159) hx hb dX8_block_226 (by decide) ?_
        exact ih S v1 v2 v3 v4 v5 v6 v7 x4 h H locs ls hP hS (lv_sub hl [1, 2, 3, 4, 5, 6, 7, 8, 0] rfl)
      · replace h := if_no hq h
        refine lv_aload_n hx hb dX8_block_176 rfl (lv_at hl 0 rfl) ?_
        refine gfWX_HiddenEdges_corner hc hP q_41 dX8_block_177 ?_
        refine lv_iload hx hb dX8_block_180 (lv_at hl 8 rfl) ?_
        refine lv_aload_n hx hb dX8_block_182 rfl (lv_at hl 0 rfl) ?_
        refine gfWX_HiddenEdges_mesh hc hP q_15 dX8_block_183 ?_
        refine lv_iload_n hx hb dX8_block_186 rfl (lv_at hl 1 rfl) ?_
        refine lv_iload hx hb dX8_block_187 (lv_at hl 8 rfl) ?_
        refine lv_iconst (v := Int32.ofInt (0 : Int)) hx hb dX8_block_189 (by decide) ?_
        obtain ⟨S5, x7, hk6, h⟩ := ob2_at h
        refine cl_Si (As := [.int (Int32.ofInt v8), .int (Int32.ofInt (0 : Int))]) (rest := [.int (Int32.ofInt v1), .ref (a 1), .int (Int32.ofInt v8), .ref (a 8)]) hc k_X8_bit q_259 (c_X8_bit hk6) hP hS rfl hl (Nat.le_of_ble_eq_true rfl) dX8_block_190 (Nat.le_of_ble_eq_true rfl) (Nat.le_of_ble_eq_true rfl) rfl (fun H locs hP hS => ?_)
        refine lv_iload hx hb dX8_block_193 (lv_at hl 4 rfl) ?_
        refine z_imul hx hb dX8_block_195 ?_
        refine z_iadd hx hb dX8_block_196 ?_
        refine lv_iload_n hx hb dX8_block_197 rfl (lv_at hl 2 rfl) ?_
        refine lv_iload hx hb dX8_block_198 (lv_at hl 8 rfl) ?_
        refine lv_iconst (v := Int32.ofInt (1 : Int)) hx hb dX8_block_200 (by decide) ?_
        obtain ⟨S8, x10, hk9, h⟩ := ob2_at h
        refine cl_Si (As := [.int (Int32.ofInt v8), .int (Int32.ofInt (1 : Int))]) (rest := [.int (Int32.ofInt v2), .int (Int32.ofInt (v1 + (x7 * v4))), .ref (a 1), .int (Int32.ofInt v8), .ref (a 8)]) hc k_X8_bit q_259 (c_X8_bit hk9) hP hS rfl hl (Nat.le_of_ble_eq_true rfl) dX8_block_201 (Nat.le_of_ble_eq_true rfl) (Nat.le_of_ble_eq_true rfl) rfl (fun H locs hP hS => ?_)
        refine lv_iload hx hb dX8_block_204 (lv_at hl 5 rfl) ?_
        refine z_imul hx hb dX8_block_206 ?_
        refine z_iadd hx hb dX8_block_207 ?_
        refine lv_iload_n hx hb dX8_block_208 rfl (lv_at hl 3 rfl) ?_
        refine lv_iload hx hb dX8_block_209 (lv_at hl 8 rfl) ?_
        refine lv_iconst (v := Int32.ofInt (2 : Int)) hx hb dX8_block_211 (by decide) ?_
        obtain ⟨S11, x13, hk12, h⟩ := ob2_at h
        refine cl_Si (As := [.int (Int32.ofInt v8), .int (Int32.ofInt (2 : Int))]) (rest := [.int (Int32.ofInt v3), .int (Int32.ofInt (v2 + (x10 * v5))), .int (Int32.ofInt (v1 + (x7 * v4))), .ref (a 1), .int (Int32.ofInt v8), .ref (a 8)]) hc k_X8_bit q_259 (c_X8_bit hk12) hP hS rfl hl (Nat.le_of_ble_eq_true rfl) dX8_block_212 (Nat.le_of_ble_eq_true rfl) (Nat.le_of_ble_eq_true rfl) rfl (fun H locs hP hS => ?_)
        refine lv_iload hx hb dX8_block_215 (lv_at hl 6 rfl) ?_
        refine z_imul hx hb dX8_block_217 ?_
        refine z_iadd hx hb dX8_block_218 ?_
        obtain ⟨S14, x16, hk15, h⟩ := ob2_at h
        refine cl_Vi (As := [.int (Int32.ofInt (v1 + (x7 * v4))), .int (Int32.ofInt (v2 + (x10 * v5))), .int (Int32.ofInt (v3 + (x13 * v6)))]) (rest := [.int (Int32.ofInt v8), .ref (a 8)]) hc k_X4_addPoint q_142 (c_X4_addPoint hk15) hP hS (WX_1 a g (em S11)) rfl rfl rfl hl (Nat.le_of_ble_eq_true rfl) dX8_block_219 (Nat.le_of_ble_eq_true rfl) (Nat.le_of_ble_eq_true rfl) rfl (fun H locs hP hS => ?_)
        refine szWX_HiddenEdges_corner hc hP hS h2 dX8_block_222 (fun H locs hP hS => ?_)
        obtain ⟨S17, eS17⟩ : ∃ z, z = ua S14 0 (v8).toNat x16 := ⟨_, rfl⟩
        replace h := olet_at eS17 h
        rw [← eS17] at hP
        obtain ⟨x18, ex18⟩ : ∃ y : Int, y = v8 + (1 : Int) := ⟨_, rfl⟩
        replace h := olet_at ex18 h
        refine lv_iinc (v := Int32.ofInt x18) (lv' := [(8, .int (Int32.ofInt x18)), (0, .ref (a 0)), (1, .int (Int32.ofInt v1)), (2, .int (Int32.ofInt v2)), (3, .int (Int32.ofInt v3)), (4, .int (Int32.ofInt v4)), (5, .int (Int32.ofInt v5)), (6, .int (Int32.ofInt v6)), (7, .int (Int32.ofInt v7))]) hx hb dX8_block_223 hl (k := 8) rfl (by rw [ex18, Int32.ofInt_add]) (by decide) rfl (fun ls hl => ?_)
        refine lv_goto (tgt := 159) hx hb dX8_block_226 (by decide) ?_
        exact ih S17 v1 v2 v3 v4 v5 v6 v7 x18 h H locs ls hP hS (lv_sub hl [1, 2, 3, 4, 5, 6, 7, 8, 0] rfl)
set_option maxHeartbeats 4000000 in
set_option maxRecDepth 100000 in
theorem t_X8_block_p36 {z : SZ × Int} (hc : Cx p R s m args c D (tysWX g) A (WX a g) cX8_block 9 RX8 4 89) (hE : EB A s) (hr : Rti p l e R s m args below meth c Q D A (WX a g) cX8_block (em z.1, Int32.ofInt z.2)) : ∀ (fu : Nat) (S : SZ) (v1 : Int) (v2 : Int) (v3 : Int) (v4 : Int) (v5 : Int) (v6 : Int) (v7 : Int) (v8 : Int), f_X8_block_p36 fu S v1 v2 v3 v4 v5 v6 v7 v8 = some z → Go p l e R s m args below meth c Q D A (WX a g) 9 (em S) 36 [(0, .ref (a 0)), (1, .int (Int32.ofInt v1)), (2, .int (Int32.ofInt v2)), (3, .int (Int32.ofInt v3)), (4, .int (Int32.ofInt v4)), (5, .int (Int32.ofInt v5)), (6, .int (Int32.ofInt v6)), (7, .int (Int32.ofInt v7)), (8, .int (Int32.ofInt v8))] [] := by
  obtain ⟨⟨hx, hb, hml, hown, hts⟩, -, -, -, hnf, hno⟩ := id hc
  obtain ⟨tb, hZ, hT⟩ := id hE
  intro fu
  induction fu with
  | zero =>
    intro S v1 v2 v3 v4 v5 v6 v7 v8 h
    rw [f_X8_block_p36] at h
    cases h
  | succ fu ih =>
    intro S v1 v2 v3 v4 v5 v6 v7 v8 h H locs ls hP hS hl
    rw [f_X8_block_p36] at h
    refine lv_iload hx hb dX8_block_36 (lv_at hl 8 rfl) ?_
    refine lv_bipush (v := Int32.ofInt (8 : Int)) hx hb dX8_block_38 (by decide) ?_
    obtain ⟨h1, h⟩ := chk_at h
    refine z_icmp_ge (tgt := 109) hx hb h1 (by decide) dX8_block_40 (by decide) (fun hq => ?_) (fun hq => ?_)
    · replace h := if_yes hq h
      refine lv_aload_n hx hb dX8_block_109 rfl (lv_at hl 0 rfl) ?_
      obtain ⟨S2, x4, hk3, h⟩ := ob2_at h
      refine cl_ViE (As := []) (rest := []) hc k_X8_hasFaceOfBlock q_262 blindB (EB_at hc hS hE) (c_X8_hasFaceOfBlock hk3) hP hS (WX_0 a g (em S)) rfl rfl rfl hl (Nat.le_of_ble_eq_true rfl) dX8_block_110 (Nat.le_of_ble_eq_true rfl) (Nat.le_of_ble_eq_true rfl) rfl (fun H locs hP hS => ?_)
      obtain ⟨h5, h⟩ := chk_at h
      refine z_if_eq (tgt := 119) hx hb h5 dX8_block_113 (by decide) (fun hq => ?_) (fun hq => ?_)
      · replace h := if_yes hq h
        refine lv_aload_n hx hb dX8_block_119 rfl (lv_at hl 0 rfl) ?_
        refine gfWX_HiddenEdges_mesh hc hP q_15 dX8_block_120 ?_
        refine gzWX_Mesh_points hc hP q_126 dX8_block_123 ?_
        refine lv_iload hx hb dX8_block_126 (lv_at hl 7 rfl) ?_
        refine z_iadd hx hb dX8_block_128 ?_
        refine lv_bipush (v := Int32.ofInt (16 : Int)) hx hb dX8_block_129 (by decide) ?_
        obtain ⟨h6, h⟩ := chk_at h
        refine z_icmp_gt (tgt := 149) hx hb h6 (by decide) dX8_block_131 (by decide) (fun hq => ?_) (fun hq => ?_)
        · replace h := if_yes hq h
          refine lv_bipush (v := Int32.ofInt (-4 : Int)) hx hb dX8_block_149 (by decide) ?_
          obtain rfl := Option.some.inj h
          exact hr _ _ _ _ dX8_block_151 hP hS
        · replace h := if_no hq h
          refine lv_aload_n hx hb dX8_block_134 rfl (lv_at hl 0 rfl) ?_
          refine gfWX_HiddenEdges_mesh hc hP q_15 dX8_block_135 ?_
          refine gzWX_Mesh_faces hc hP q_174 dX8_block_138 ?_
          refine lv_bipush (v := Int32.ofInt (12 : Int)) hx hb dX8_block_141 (by decide) ?_
          refine z_iadd hx hb dX8_block_143 ?_
          refine lv_bipush (v := Int32.ofInt (24 : Int)) hx hb dX8_block_144 (by decide) ?_
          obtain ⟨h7, h⟩ := chk_at h
          refine z_icmp_le (tgt := 152) hx hb h7 (by decide) dX8_block_146 (by decide) (fun hq => ?_) (fun hq => ?_)
          · replace h := if_yes hq h
            refine lv_aload_n hx hb dX8_block_152 rfl (lv_at hl 0 rfl) ?_
            obtain ⟨S8, hk9, h⟩ := ob1_at h
            refine cl_Vv (As := []) (rest := []) hc k_X8_forget q_138 (c_X8_forget hk9) hP hS (WX_0 a g (em S2)) rfl rfl rfl hl (Nat.le_of_ble_eq_true rfl) dX8_block_153 (Nat.le_of_ble_eq_true rfl) (Nat.le_of_ble_eq_true rfl) rfl (fun H locs hP hS => ?_)
            refine lv_iconst (v := Int32.ofInt (0 : Int)) hx hb dX8_block_156 (by decide) ?_
            refine lv_istore (lv' := [(8, .int (Int32.ofInt (0 : Int))), (0, .ref (a 0)), (1, .int (Int32.ofInt v1)), (2, .int (Int32.ofInt v2)), (3, .int (Int32.ofInt v3)), (4, .int (Int32.ofInt v4)), (5, .int (Int32.ofInt v5)), (6, .int (Int32.ofInt v6)), (7, .int (Int32.ofInt v7))]) hx hb dX8_block_157 hl (by decide) rfl (fun ls hl => ?_)
            exact t_X8_block_p159 hc hE hr FU S8 v1 v2 v3 v4 v5 v6 v7 (0 : Int) h H locs ls hP hS (lv_sub hl [1, 2, 3, 4, 5, 6, 7, 8, 0] rfl)
          · replace h := if_no hq h
            refine lv_bipush (v := Int32.ofInt (-4 : Int)) hx hb dX8_block_149 (by decide) ?_
            obtain rfl := Option.some.inj h
            exact hr _ _ _ _ dX8_block_151 hP hS
      · replace h := if_no hq h
        refine lv_bipush (v := Int32.ofInt (-3 : Int)) hx hb dX8_block_116 (by decide) ?_
        obtain rfl := Option.some.inj h
        exact hr _ _ _ _ dX8_block_118 hP hS
    · replace h := if_no hq h
      refine lv_aload_n hx hb dX8_block_43 rfl (lv_at hl 0 rfl) ?_
      refine gfWX_HiddenEdges_corner hc hP q_41 dX8_block_44 ?_
      refine lv_iload hx hb dX8_block_47 (lv_at hl 8 rfl) ?_
      refine lv_aload_n hx hb dX8_block_49 rfl (lv_at hl 0 rfl) ?_
      refine gfWX_HiddenEdges_mesh hc hP q_15 dX8_block_50 ?_
      refine lv_iload_n hx hb dX8_block_53 rfl (lv_at hl 1 rfl) ?_
      refine lv_iload hx hb dX8_block_54 (lv_at hl 8 rfl) ?_
      refine lv_iconst (v := Int32.ofInt (0 : Int)) hx hb dX8_block_56 (by decide) ?_
      obtain ⟨S10, x12, hk11, h⟩ := ob2_at h
      refine cl_Si (As := [.int (Int32.ofInt v8), .int (Int32.ofInt (0 : Int))]) (rest := [.int (Int32.ofInt v1), .ref (a 1), .int (Int32.ofInt v8), .ref (a 8)]) hc k_X8_bit q_259 (c_X8_bit hk11) hP hS rfl hl (Nat.le_of_ble_eq_true rfl) dX8_block_57 (Nat.le_of_ble_eq_true rfl) (Nat.le_of_ble_eq_true rfl) rfl (fun H locs hP hS => ?_)
      refine lv_iload hx hb dX8_block_60 (lv_at hl 4 rfl) ?_
      refine z_imul hx hb dX8_block_62 ?_
      refine z_iadd hx hb dX8_block_63 ?_
      refine lv_iload_n hx hb dX8_block_64 rfl (lv_at hl 2 rfl) ?_
      refine lv_iload hx hb dX8_block_65 (lv_at hl 8 rfl) ?_
      refine lv_iconst (v := Int32.ofInt (1 : Int)) hx hb dX8_block_67 (by decide) ?_
      obtain ⟨S13, x15, hk14, h⟩ := ob2_at h
      refine cl_Si (As := [.int (Int32.ofInt v8), .int (Int32.ofInt (1 : Int))]) (rest := [.int (Int32.ofInt v2), .int (Int32.ofInt (v1 + (x12 * v4))), .ref (a 1), .int (Int32.ofInt v8), .ref (a 8)]) hc k_X8_bit q_259 (c_X8_bit hk14) hP hS rfl hl (Nat.le_of_ble_eq_true rfl) dX8_block_68 (Nat.le_of_ble_eq_true rfl) (Nat.le_of_ble_eq_true rfl) rfl (fun H locs hP hS => ?_)
      refine lv_iload hx hb dX8_block_71 (lv_at hl 5 rfl) ?_
      refine z_imul hx hb dX8_block_73 ?_
      refine z_iadd hx hb dX8_block_74 ?_
      refine lv_iload_n hx hb dX8_block_75 rfl (lv_at hl 3 rfl) ?_
      refine lv_iload hx hb dX8_block_76 (lv_at hl 8 rfl) ?_
      refine lv_iconst (v := Int32.ofInt (2 : Int)) hx hb dX8_block_78 (by decide) ?_
      obtain ⟨S16, x18, hk17, h⟩ := ob2_at h
      refine cl_Si (As := [.int (Int32.ofInt v8), .int (Int32.ofInt (2 : Int))]) (rest := [.int (Int32.ofInt v3), .int (Int32.ofInt (v2 + (x15 * v5))), .int (Int32.ofInt (v1 + (x12 * v4))), .ref (a 1), .int (Int32.ofInt v8), .ref (a 8)]) hc k_X8_bit q_259 (c_X8_bit hk17) hP hS rfl hl (Nat.le_of_ble_eq_true rfl) dX8_block_79 (Nat.le_of_ble_eq_true rfl) (Nat.le_of_ble_eq_true rfl) rfl (fun H locs hP hS => ?_)
      refine lv_iload hx hb dX8_block_82 (lv_at hl 6 rfl) ?_
      refine z_imul hx hb dX8_block_84 ?_
      refine z_iadd hx hb dX8_block_85 ?_
      obtain ⟨S19, x21, hk20, h⟩ := ob2_at h
      refine cl_Vi (As := [.int (Int32.ofInt (v1 + (x12 * v4))), .int (Int32.ofInt (v2 + (x15 * v5))), .int (Int32.ofInt (v3 + (x18 * v6)))]) (rest := [.int (Int32.ofInt v8), .ref (a 8)]) hc k_X4_pointAt q_133 (c_X4_pointAt hk20) hP hS (WX_1 a g (em S16)) rfl rfl rfl hl (Nat.le_of_ble_eq_true rfl) dX8_block_86 (Nat.le_of_ble_eq_true rfl) (Nat.le_of_ble_eq_true rfl) rfl (fun H locs hP hS => ?_)
      obtain ⟨h22, h⟩ := chk_at h
      refine szWX_HiddenEdges_corner hc hP hS h22 dX8_block_89 (fun H locs hP hS => ?_)
      obtain ⟨S23, eS23⟩ : ∃ z, z = ua S19 0 (v8).toNat x21 := ⟨_, rfl⟩
      replace h := olet_at eS23 h
      rw [← eS23] at hP
      refine lv_aload_n hx hb dX8_block_90 rfl (lv_at hl 0 rfl) ?_
      refine gfWX_HiddenEdges_corner hc hP q_41 dX8_block_91 ?_
      refine lv_iload hx hb dX8_block_94 (lv_at hl 8 rfl) ?_
      refine azWX_HiddenEdges_corner hc hP h22 dX8_block_96 ?_
      obtain ⟨h24, h⟩ := chk_at h
      refine z_if_ge (tgt := 103) hx hb h24 dX8_block_97 (by decide) (fun hq => ?_) (fun hq => ?_)
      · replace h := if_yes hq h
        obtain ⟨x25, ex25⟩ : ∃ y : Int, y = v8 + (1 : Int) := ⟨_, rfl⟩
        replace h := olet_at ex25 h
        refine lv_iinc (v := Int32.ofInt x25) (lv' := [(8, .int (Int32.ofInt x25)), (0, .ref (a 0)), (1, .int (Int32.ofInt v1)), (2, .int (Int32.ofInt v2)), (3, .int (Int32.ofInt v3)), (4, .int (Int32.ofInt v4)), (5, .int (Int32.ofInt v5)), (6, .int (Int32.ofInt v6)), (7, .int (Int32.ofInt v7))]) hx hb dX8_block_103 hl (k := 8) rfl (by rw [ex25, Int32.ofInt_add]) (by decide) rfl (fun ls hl => ?_)
        refine lv_goto (tgt := 36) hx hb dX8_block_106 (by decide) ?_
        exact ih S23 v1 v2 v3 v4 v5 v6 v7 x25 h H locs ls hP hS (lv_sub hl [1, 2, 3, 4, 5, 6, 7, 8, 0] rfl)
      · replace h := if_no hq h
        obtain ⟨x26, ex26⟩ : ∃ y : Int, y = v7 + (1 : Int) := ⟨_, rfl⟩
        replace h := olet_at ex26 h
        refine lv_iinc (v := Int32.ofInt x26) (lv' := [(7, .int (Int32.ofInt x26)), (0, .ref (a 0)), (1, .int (Int32.ofInt v1)), (2, .int (Int32.ofInt v2)), (3, .int (Int32.ofInt v3)), (4, .int (Int32.ofInt v4)), (5, .int (Int32.ofInt v5)), (6, .int (Int32.ofInt v6)), (8, .int (Int32.ofInt v8))]) hx hb dX8_block_100 hl (k := 7) rfl (by rw [ex26, Int32.ofInt_add]) (by decide) rfl (fun ls hl => ?_)
        obtain ⟨x27, ex27⟩ : ∃ y : Int, y = v8 + (1 : Int) := ⟨_, rfl⟩
        replace h := olet_at ex27 h
        refine lv_iinc (v := Int32.ofInt x27) (lv' := [(8, .int (Int32.ofInt x27)), (7, .int (Int32.ofInt x26)), (0, .ref (a 0)), (1, .int (Int32.ofInt v1)), (2, .int (Int32.ofInt v2)), (3, .int (Int32.ofInt v3)), (4, .int (Int32.ofInt v4)), (5, .int (Int32.ofInt v5)), (6, .int (Int32.ofInt v6))]) hx hb dX8_block_103 hl (k := 8) rfl (by rw [ex27, Int32.ofInt_add]) (by decide) rfl (fun ls hl => ?_)
        refine lv_goto (tgt := 36) hx hb dX8_block_106 (by decide) ?_
        exact ih S23 v1 v2 v3 v4 v5 v6 x26 x27 h H locs ls hP hS (lv_sub hl [2, 3, 4, 5, 6, 7, 8, 1, 0] rfl)
set_option maxHeartbeats 4000000 in
set_option maxRecDepth 100000 in
theorem t_X8_block {z : SZ × Int} (hc : Cx p R s m args c D (tysWX g) A (WX a g) cX8_block 9 RX8 4 89) (hE : EB A s) (hr : Rti p l e R s m args below meth c Q D A (WX a g) cX8_block (em z.1, Int32.ofInt z.2)) : ∀ (S : SZ) (v1 : Int) (v2 : Int) (v3 : Int) (v4 : Int) (v5 : Int) (v6 : Int), f_X8_block S v1 v2 v3 v4 v5 v6 = some z → Go p l e R s m args below meth c Q D A (WX a g) 9 (em S) 0 [(0, .ref (a 0)), (1, .int (Int32.ofInt v1)), (2, .int (Int32.ofInt v2)), (3, .int (Int32.ofInt v3)), (4, .int (Int32.ofInt v4)), (5, .int (Int32.ofInt v5)), (6, .int (Int32.ofInt v6))] [] := by
  obtain ⟨⟨hx, hb, hml, hown, hts⟩, -, -, -, hnf, hno⟩ := id hc
  obtain ⟨tb, hZ, hT⟩ := id hE
  intro S v1 v2 v3 v4 v5 v6 h H locs ls hP hS hl
  rw [f_X8_block] at h
  replace hl : lv_has ls 9 [(0, .ref (a 0)), (1, .int (Int32.ofInt v1)), (2, .int (Int32.ofInt v2)), (3, .int (Int32.ofInt v3)), (4, .int (Int32.ofInt v4)), (5, .int (Int32.ofInt v5)), (6, .int (Int32.ofInt v6))] := hl
  refine lv_iload_n hx hb dX8_block_0 rfl (lv_at hl 1 rfl) ?_
  refine lv_iload hx hb dX8_block_1 (lv_at hl 4 rfl) ?_
  obtain ⟨S1, x3, hk2, h⟩ := ob2_at h
  refine cl_Si (As := [.int (Int32.ofInt v1), .int (Int32.ofInt v4)]) (rest := []) hc k_X8_isSide q_256 (c_X8_isSide hk2) hP hS rfl hl (Nat.le_of_ble_eq_true rfl) dX8_block_3 (Nat.le_of_ble_eq_true rfl) (Nat.le_of_ble_eq_true rfl) rfl (fun H locs hP hS => ?_)
  obtain ⟨h4, h⟩ := chk_at h
  refine z_if_eq (tgt := 27) hx hb h4 dX8_block_6 (by decide) (fun hq => ?_) (fun hq => ?_)
  · replace h := if_yes hq h
    refine lv_bipush (v := Int32.ofInt (-2 : Int)) hx hb dX8_block_27 (by decide) ?_
    obtain rfl := Option.some.inj h
    exact hr _ _ _ _ dX8_block_29 hP hS
  · replace h := if_no hq h
    refine lv_iload_n hx hb dX8_block_9 rfl (lv_at hl 2 rfl) ?_
    refine lv_iload hx hb dX8_block_10 (lv_at hl 5 rfl) ?_
    obtain ⟨S5, x7, hk6, h⟩ := ob2_at h
    refine cl_Si (As := [.int (Int32.ofInt v2), .int (Int32.ofInt v5)]) (rest := []) hc k_X8_isSide q_256 (c_X8_isSide hk6) hP hS rfl hl (Nat.le_of_ble_eq_true rfl) dX8_block_12 (Nat.le_of_ble_eq_true rfl) (Nat.le_of_ble_eq_true rfl) rfl (fun H locs hP hS => ?_)
    obtain ⟨h8, h⟩ := chk_at h
    refine z_if_eq (tgt := 27) hx hb h8 dX8_block_15 (by decide) (fun hq => ?_) (fun hq => ?_)
    · replace h := if_yes hq h
      refine lv_bipush (v := Int32.ofInt (-2 : Int)) hx hb dX8_block_27 (by decide) ?_
      obtain rfl := Option.some.inj h
      exact hr _ _ _ _ dX8_block_29 hP hS
    · replace h := if_no hq h
      refine lv_iload_n hx hb dX8_block_18 rfl (lv_at hl 3 rfl) ?_
      refine lv_iload hx hb dX8_block_19 (lv_at hl 6 rfl) ?_
      obtain ⟨S9, x11, hk10, h⟩ := ob2_at h
      refine cl_Si (As := [.int (Int32.ofInt v3), .int (Int32.ofInt v6)]) (rest := []) hc k_X8_isSide q_256 (c_X8_isSide hk10) hP hS rfl hl (Nat.le_of_ble_eq_true rfl) dX8_block_21 (Nat.le_of_ble_eq_true rfl) (Nat.le_of_ble_eq_true rfl) rfl (fun H locs hP hS => ?_)
      obtain ⟨h12, h⟩ := chk_at h
      refine z_if_ne (tgt := 30) hx hb h12 dX8_block_24 (by decide) (fun hq => ?_) (fun hq => ?_)
      · replace h := if_no hq h
        refine lv_iconst (v := Int32.ofInt (0 : Int)) hx hb dX8_block_30 (by decide) ?_
        refine lv_istore (lv' := [(7, .int (Int32.ofInt (0 : Int))), (0, .ref (a 0)), (1, .int (Int32.ofInt v1)), (2, .int (Int32.ofInt v2)), (3, .int (Int32.ofInt v3)), (4, .int (Int32.ofInt v4)), (5, .int (Int32.ofInt v5)), (6, .int (Int32.ofInt v6))]) hx hb dX8_block_31 hl (by decide) rfl (fun ls hl => ?_)
        refine lv_iconst (v := Int32.ofInt (0 : Int)) hx hb dX8_block_33 (by decide) ?_
        refine lv_istore (lv' := [(8, .int (Int32.ofInt (0 : Int))), (7, .int (Int32.ofInt (0 : Int))), (0, .ref (a 0)), (1, .int (Int32.ofInt v1)), (2, .int (Int32.ofInt v2)), (3, .int (Int32.ofInt v3)), (4, .int (Int32.ofInt v4)), (5, .int (Int32.ofInt v5)), (6, .int (Int32.ofInt v6))]) hx hb dX8_block_34 hl (by decide) rfl (fun ls hl => ?_)
        exact t_X8_block_p36 hc hE hr FU S9 v1 v2 v3 v4 v5 v6 (0 : Int) (0 : Int) h H locs ls hP hS (lv_sub hl [2, 3, 4, 5, 6, 7, 8, 1, 0] rfl)
      · replace h := if_yes hq h
        refine lv_bipush (v := Int32.ofInt (-2 : Int)) hx hb dX8_block_27 (by decide) ?_
        obtain rfl := Option.some.inj h
        exact hr _ _ _ _ dX8_block_29 hP hS
abbrev rm_X8_block : Room := { frames := 4, cells := 0, slots := 0, locals := 89 }
theorem c_X8_block {l : Launch} {D : va_G} {a : Nat → Nat} {g : Nat → ClassId} {S : SZ} {v1 : Int} {v2 : Int} {v3 : Int} {v4 : Int} {v5 : Int} {v6 : Int} {Z1 : SZ} {r1 : Int} (h : f_X8_block S v1 v2 v3 v4 v5 v6 = some (Z1, r1)) : MetI l D (tysWX g) (WX a g) EB yX8_block cX8_block 9 (some .int) rm_X8_block [.ref (a 0), .int (Int32.ofInt v1), .int (Int32.ofInt v2), .int (Int32.ofInt v3), .int (Int32.ofInt v4), .int (Int32.ofInt v5), .int (Int32.ofInt v6)] (em S) (em Z1, Int32.ofInt r1) := mk_i (WX_same a g) (by decide) (em Z1, Int32.ofInt r1) (Nat.le_of_ble_eq_true rfl) (fun p e s m args below meth c A Q hc hE hr => t_X8_block (z := (Z1, r1)) hc hE hr S v1 v2 v3 v4 v5 v6 h)
theorem k_X8_block : CalV RX8 yX8_block cX8_block 9 (some .int) rm_X8_block 6 := ⟨q_252, q_253, q_2, q_254, by decide +kernel, rfl, rfl⟩
set_option maxHeartbeats 4000000 in
set_option maxRecDepth 100000 in
theorem t_X8_cut {z : SZ × Int} (hc : Cx p R s m args c D (tysWX g) A (WX a g) cX8_cut 1 RX8 1 20) (hr : Rti p l e R s m args below meth c Q D A (WX a g) cX8_cut (em z.1, Int32.ofInt z.2)) : ∀ (S : SZ), f_X8_cut S = some z → Go p l e R s m args below meth c Q D A (WX a g) 1 (em S) 0 [(0, .ref (a 0))] [] := by
  obtain ⟨⟨hx, hb, hml, hown, hts⟩, -, -, -, hnf, hno⟩ := id hc
  intro S h H locs ls hP hS hl
  rw [f_X8_cut] at h
  replace hl : lv_has ls 1 [(0, .ref (a 0))] := hl
  refine lv_aload_n hx hb dX8_cut_0 rfl (lv_at hl 0 rfl) ?_
  refine gfWX_HiddenEdges_mesh hc hP q_15 dX8_cut_1 ?_
  refine gzWX_Mesh_faces hc hP q_174 dX8_cut_4 ?_
  obtain ⟨h1, h⟩ := chk_at h
  refine z_if_ne (tgt := 13) hx hb h1 dX8_cut_7 (by decide) (fun hq => ?_) (fun hq => ?_)
  · replace h := if_no hq h
    refine lv_aload_n hx hb dX8_cut_13 rfl (lv_at hl 0 rfl) ?_
    obtain ⟨S2, hk3, h⟩ := ob1_at h
    refine cl_Vv (As := []) (rest := []) hc k_X8_forget q_138 (c_X8_forget hk3) hP hS (WX_0 a g (em S)) rfl rfl rfl hl (Nat.le_of_ble_eq_true rfl) dX8_cut_14 (Nat.le_of_ble_eq_true rfl) (Nat.le_of_ble_eq_true rfl) rfl (fun H locs hP hS => ?_)
    refine lv_aload_n hx hb dX8_cut_17 rfl (lv_at hl 0 rfl) ?_
    refine gfWX_HiddenEdges_mesh hc hP q_15 dX8_cut_18 ?_
    refine lv_dup hx hb dX8_cut_21 rfl ?_
    refine gzWX_Mesh_faces hc hP q_174 dX8_cut_22 ?_
    refine lv_iconst (v := Int32.ofInt (1 : Int)) hx hb dX8_cut_25 (by decide) ?_
    refine z_isub hx hb dX8_cut_26 ?_
    refine pzWX_Mesh_faces hc hP hS q_174 dX8_cut_27 (fun H locs hP hS => ?_)
    obtain ⟨S4, eS4⟩ : ∃ z, z = ui S2 3 ((zi S2 3) - (1 : Int)) := ⟨_, rfl⟩
    replace h := olet_at eS4 h
    rw [← eS4] at hP
    refine lv_aload_n hx hb dX8_cut_30 rfl (lv_at hl 0 rfl) ?_
    refine gfWX_HiddenEdges_mesh hc hP q_15 dX8_cut_31 ?_
    refine gzWX_Mesh_faces hc hP q_174 dX8_cut_34 ?_
    obtain rfl := Option.some.inj h
    exact hr _ _ _ _ dX8_cut_37 hP hS
  · replace h := if_yes hq h
    refine lv_bipush (v := Int32.ofInt (-3 : Int)) hx hb dX8_cut_10 (by decide) ?_
    obtain rfl := Option.some.inj h
    exact hr _ _ _ _ dX8_cut_12 hP hS
abbrev rm_X8_cut : Room := { frames := 1, cells := 0, slots := 0, locals := 20 }
theorem c_X8_cut {l : Launch} {D : va_G} {a : Nat → Nat} {g : Nat → ClassId} {S : SZ} {Z1 : SZ} {r1 : Int} (h : f_X8_cut S = some (Z1, r1)) : MetI l D (tysWX g) (WX a g) E0 yX8_cut cX8_cut 1 (some .int) rm_X8_cut [.ref (a 0)] (em S) (em Z1, Int32.ofInt r1) := mk_i (WX_same a g) (by decide) (em Z1, Int32.ofInt r1) (Nat.le_of_ble_eq_true rfl) (fun p e s m args below meth c A Q hc hE hr => t_X8_cut (z := (Z1, r1)) hc hr S h)
theorem k_X8_cut : CalV RX8 yX8_cut cX8_cut 1 (some .int) rm_X8_cut 0 := ⟨q_275, q_276, q_2, q_277, by decide +kernel, rfl, rfl⟩
set_option maxHeartbeats 4000000 in
set_option maxRecDepth 100000 in
theorem t_X8_clear {z : SZ × Int} (hc : Cx p R s m args c D (tysWX g) A (WX a g) cX8_clear 2 RX8 1 20) (hr : Rti p l e R s m args below meth c Q D A (WX a g) cX8_clear (em z.1, Int32.ofInt z.2)) : ∀ (S : SZ), f_X8_clear S = some z → Go p l e R s m args below meth c Q D A (WX a g) 2 (em S) 0 [(0, .ref (a 0))] [] := by
  obtain ⟨⟨hx, hb, hml, hown, hts⟩, -, -, -, hnf, hno⟩ := id hc
  intro S h H locs ls hP hS hl
  rw [f_X8_clear] at h
  replace hl : lv_has ls 2 [(0, .ref (a 0))] := hl
  refine lv_aload_n hx hb dX8_clear_0 rfl (lv_at hl 0 rfl) ?_
  refine gfWX_HiddenEdges_mesh hc hP q_15 dX8_clear_1 ?_
  refine gzWX_Mesh_faces hc hP q_174 dX8_clear_4 ?_
  refine z_topi (fun x1 ex1 => ?_)
  replace h := olet_at ex1 h
  refine lv_istore_n (lv' := [(1, .int (Int32.ofInt x1)), (0, .ref (a 0))]) hx hb dX8_clear_7 rfl hl (by decide) rfl (fun ls hl => ?_)
  refine lv_aload_n hx hb dX8_clear_8 rfl (lv_at hl 1 rfl) ?_
  obtain ⟨S2, hk3, h⟩ := ob1_at h
  refine cl_Vv (As := []) (rest := []) hc k_X8_forget q_138 (c_X8_forget hk3) hP hS (WX_0 a g (em S)) rfl rfl rfl hl (Nat.le_of_ble_eq_true rfl) dX8_clear_9 (Nat.le_of_ble_eq_true rfl) (Nat.le_of_ble_eq_true rfl) rfl (fun H locs hP hS => ?_)
  refine lv_aload_n hx hb dX8_clear_12 rfl (lv_at hl 1 rfl) ?_
  refine gfWX_HiddenEdges_mesh hc hP q_15 dX8_clear_13 ?_
  refine lv_iconst (v := Int32.ofInt (0 : Int)) hx hb dX8_clear_16 (by decide) ?_
  refine pzWX_Mesh_points hc hP hS q_126 dX8_clear_17 (fun H locs hP hS => ?_)
  obtain ⟨S4, eS4⟩ : ∃ z, z = ui S2 2 (0 : Int) := ⟨_, rfl⟩
  replace h := olet_at eS4 h
  rw [← eS4] at hP
  refine lv_aload_n hx hb dX8_clear_20 rfl (lv_at hl 1 rfl) ?_
  refine gfWX_HiddenEdges_mesh hc hP q_15 dX8_clear_21 ?_
  refine lv_iconst (v := Int32.ofInt (0 : Int)) hx hb dX8_clear_24 (by decide) ?_
  refine pzWX_Mesh_faces hc hP hS q_174 dX8_clear_25 (fun H locs hP hS => ?_)
  obtain ⟨S5, eS5⟩ : ∃ z, z = ui S4 3 (0 : Int) := ⟨_, rfl⟩
  replace h := olet_at eS5 h
  rw [← eS5] at hP
  refine lv_aload_n hx hb dX8_clear_28 rfl (lv_at hl 1 rfl) ?_
  refine gfWX_HiddenEdges_mesh hc hP q_15 dX8_clear_29 ?_
  refine lv_iconst (v := Int32.ofInt (0 : Int)) hx hb dX8_clear_32 (by decide) ?_
  refine pzWX_Mesh_wires hc hP hS q_232 dX8_clear_33 (fun H locs hP hS => ?_)
  obtain ⟨S6, eS6⟩ : ∃ z, z = ui S5 4 (0 : Int) := ⟨_, rfl⟩
  replace h := olet_at eS6 h
  rw [← eS6] at hP
  refine lv_iload_n hx hb dX8_clear_36 rfl (lv_at hl 0 rfl) ?_
  obtain rfl := Option.some.inj h
  exact hr _ _ _ _ dX8_clear_37 hP hS
abbrev rm_X8_clear : Room := { frames := 1, cells := 0, slots := 0, locals := 20 }
theorem c_X8_clear {l : Launch} {D : va_G} {a : Nat → Nat} {g : Nat → ClassId} {S : SZ} {Z1 : SZ} {r1 : Int} (h : f_X8_clear S = some (Z1, r1)) : MetI l D (tysWX g) (WX a g) E0 yX8_clear cX8_clear 2 (some .int) rm_X8_clear [.ref (a 0)] (em S) (em Z1, Int32.ofInt r1) := mk_i (WX_same a g) (by decide) (em Z1, Int32.ofInt r1) (Nat.le_of_ble_eq_true rfl) (fun p e s m args below meth c A Q hc hE hr => t_X8_clear (z := (Z1, r1)) hc hr S h)
theorem k_X8_clear : CalV RX8 yX8_clear cX8_clear 2 (some .int) rm_X8_clear 0 := ⟨q_283, q_284, q_2, q_285, by decide +kernel, rfl, rfl⟩
set_option maxHeartbeats 4000000 in
set_option maxRecDepth 100000 in
theorem t_X8_view {z : SZ × Int} (hc : Cx p R s m args c D (tysWX g) A (WX a g) cX8_view 4 RX8 1 23) (hr : Rti p l e R s m args below meth c Q D A (WX a g) cX8_view (em z.1, Int32.ofInt z.2)) : ∀ (S : SZ) (v1 : Int) (v2 : Int) (v3 : Int), f_X8_view S v1 v2 v3 = some z → Go p l e R s m args below meth c Q D A (WX a g) 4 (em S) 0 [(0, .ref (a 0)), (1, .int (Int32.ofInt v1)), (2, .int (Int32.ofInt v2)), (3, .int (Int32.ofInt v3))] [] := by
  obtain ⟨⟨hx, hb, hml, hown, hts⟩, -, -, -, hnf, hno⟩ := id hc
  intro S v1 v2 v3 h H locs ls hP hS hl
  rw [f_X8_view] at h
  replace hl : lv_has ls 4 [(0, .ref (a 0)), (1, .int (Int32.ofInt v1)), (2, .int (Int32.ofInt v2)), (3, .int (Int32.ofInt v3))] := hl
  refine lv_iload_n hx hb dX8_view_0 rfl (lv_at hl 1 rfl) ?_
  refine lv_iconst (v := Int32.ofInt (3 : Int)) hx hb dX8_view_1 (by decide) ?_
  obtain ⟨S1, x3, hk2, h⟩ := ob2_at h
  refine cl_Si (As := [.int (Int32.ofInt v1), .int (Int32.ofInt (3 : Int))]) (rest := []) hc k_X8_within q_130 (c_X8_within hk2) hP hS rfl hl (Nat.le_of_ble_eq_true rfl) dX8_view_2 (Nat.le_of_ble_eq_true rfl) (Nat.le_of_ble_eq_true rfl) rfl (fun H locs hP hS => ?_)
  obtain ⟨h4, h⟩ := chk_at h
  refine z_if_eq (tgt := 24) hx hb h4 dX8_view_5 (by decide) (fun hq => ?_) (fun hq => ?_)
  · replace h := if_yes hq h
    refine lv_bipush (v := Int32.ofInt (-2 : Int)) hx hb dX8_view_24 (by decide) ?_
    obtain rfl := Option.some.inj h
    exact hr _ _ _ _ dX8_view_26 hP hS
  · replace h := if_no hq h
    refine lv_iload_n hx hb dX8_view_8 rfl (lv_at hl 2 rfl) ?_
    refine lv_iconst (v := Int32.ofInt (3 : Int)) hx hb dX8_view_9 (by decide) ?_
    obtain ⟨S5, x7, hk6, h⟩ := ob2_at h
    refine cl_Si (As := [.int (Int32.ofInt v2), .int (Int32.ofInt (3 : Int))]) (rest := []) hc k_X8_within q_130 (c_X8_within hk6) hP hS rfl hl (Nat.le_of_ble_eq_true rfl) dX8_view_10 (Nat.le_of_ble_eq_true rfl) (Nat.le_of_ble_eq_true rfl) rfl (fun H locs hP hS => ?_)
    obtain ⟨h8, h⟩ := chk_at h
    refine z_if_eq (tgt := 24) hx hb h8 dX8_view_13 (by decide) (fun hq => ?_) (fun hq => ?_)
    · replace h := if_yes hq h
      refine lv_bipush (v := Int32.ofInt (-2 : Int)) hx hb dX8_view_24 (by decide) ?_
      obtain rfl := Option.some.inj h
      exact hr _ _ _ _ dX8_view_26 hP hS
    · replace h := if_no hq h
      refine lv_iload_n hx hb dX8_view_16 rfl (lv_at hl 3 rfl) ?_
      refine lv_iconst (v := Int32.ofInt (3 : Int)) hx hb dX8_view_17 (by decide) ?_
      obtain ⟨S9, x11, hk10, h⟩ := ob2_at h
      refine cl_Si (As := [.int (Int32.ofInt v3), .int (Int32.ofInt (3 : Int))]) (rest := []) hc k_X8_within q_130 (c_X8_within hk10) hP hS rfl hl (Nat.le_of_ble_eq_true rfl) dX8_view_18 (Nat.le_of_ble_eq_true rfl) (Nat.le_of_ble_eq_true rfl) rfl (fun H locs hP hS => ?_)
      obtain ⟨h12, h⟩ := chk_at h
      refine z_if_ne (tgt := 27) hx hb h12 dX8_view_21 (by decide) (fun hq => ?_) (fun hq => ?_)
      · replace h := if_no hq h
        refine lv_iload_n hx hb dX8_view_27 rfl (lv_at hl 1 rfl) ?_
        obtain ⟨h13, h⟩ := chk_at h
        refine z_if_ne (tgt := 42) hx hb h13 dX8_view_28 (by decide) (fun hq => ?_) (fun hq => ?_)
        · replace h := if_no hq h
          refine lv_aload_n hx hb dX8_view_42 rfl (lv_at hl 0 rfl) ?_
          obtain ⟨S14, hk15, h⟩ := ob1_at h
          refine cl_Vv (As := []) (rest := []) hc k_X8_forget q_138 (c_X8_forget hk15) hP hS (WX_0 a g (em S9)) rfl rfl rfl hl (Nat.le_of_ble_eq_true rfl) dX8_view_43 (Nat.le_of_ble_eq_true rfl) (Nat.le_of_ble_eq_true rfl) rfl (fun H locs hP hS => ?_)
          refine lv_aload_n hx hb dX8_view_46 rfl (lv_at hl 0 rfl) ?_
          refine gfWX_HiddenEdges_sight hc hP q_19 dX8_view_47 ?_
          refine lv_iload_n hx hb dX8_view_50 rfl (lv_at hl 1 rfl) ?_
          refine lv_iload_n hx hb dX8_view_51 rfl (lv_at hl 2 rfl) ?_
          refine lv_iload_n hx hb dX8_view_52 rfl (lv_at hl 3 rfl) ?_
          obtain ⟨S16, hk17, h⟩ := ob1_at h
          refine cl_Vv (As := [.int (Int32.ofInt v1), .int (Int32.ofInt v2), .int (Int32.ofInt v3)]) (rest := []) hc k_X6_look q_294 (c_X6_look hk17) hP hS (WX_2 a g (em S14)) rfl rfl rfl hl (Nat.le_of_ble_eq_true rfl) dX8_view_53 (Nat.le_of_ble_eq_true rfl) (Nat.le_of_ble_eq_true rfl) rfl (fun H locs hP hS => ?_)
          refine lv_iconst (v := Int32.ofInt (1 : Int)) hx hb dX8_view_56 (by decide) ?_
          obtain rfl := Option.some.inj h
          exact hr _ _ _ _ dX8_view_57 hP hS
        · replace h := if_yes hq h
          refine lv_iload_n hx hb dX8_view_31 rfl (lv_at hl 2 rfl) ?_
          obtain ⟨h18, h⟩ := chk_at h
          refine z_if_ne (tgt := 42) hx hb h18 dX8_view_32 (by decide) (fun hq => ?_) (fun hq => ?_)
          · replace h := if_no hq h
            refine lv_aload_n hx hb dX8_view_42 rfl (lv_at hl 0 rfl) ?_
            obtain ⟨S19, hk20, h⟩ := ob1_at h
            refine cl_Vv (As := []) (rest := []) hc k_X8_forget q_138 (c_X8_forget hk20) hP hS (WX_0 a g (em S9)) rfl rfl rfl hl (Nat.le_of_ble_eq_true rfl) dX8_view_43 (Nat.le_of_ble_eq_true rfl) (Nat.le_of_ble_eq_true rfl) rfl (fun H locs hP hS => ?_)
            refine lv_aload_n hx hb dX8_view_46 rfl (lv_at hl 0 rfl) ?_
            refine gfWX_HiddenEdges_sight hc hP q_19 dX8_view_47 ?_
            refine lv_iload_n hx hb dX8_view_50 rfl (lv_at hl 1 rfl) ?_
            refine lv_iload_n hx hb dX8_view_51 rfl (lv_at hl 2 rfl) ?_
            refine lv_iload_n hx hb dX8_view_52 rfl (lv_at hl 3 rfl) ?_
            obtain ⟨S21, hk22, h⟩ := ob1_at h
            refine cl_Vv (As := [.int (Int32.ofInt v1), .int (Int32.ofInt v2), .int (Int32.ofInt v3)]) (rest := []) hc k_X6_look q_294 (c_X6_look hk22) hP hS (WX_2 a g (em S19)) rfl rfl rfl hl (Nat.le_of_ble_eq_true rfl) dX8_view_53 (Nat.le_of_ble_eq_true rfl) (Nat.le_of_ble_eq_true rfl) rfl (fun H locs hP hS => ?_)
            refine lv_iconst (v := Int32.ofInt (1 : Int)) hx hb dX8_view_56 (by decide) ?_
            obtain rfl := Option.some.inj h
            exact hr _ _ _ _ dX8_view_57 hP hS
          · replace h := if_yes hq h
            refine lv_iload_n hx hb dX8_view_35 rfl (lv_at hl 3 rfl) ?_
            obtain ⟨h23, h⟩ := chk_at h
            refine z_if_ne (tgt := 42) hx hb h23 dX8_view_36 (by decide) (fun hq => ?_) (fun hq => ?_)
            · replace h := if_no hq h
              refine lv_aload_n hx hb dX8_view_42 rfl (lv_at hl 0 rfl) ?_
              obtain ⟨S24, hk25, h⟩ := ob1_at h
              refine cl_Vv (As := []) (rest := []) hc k_X8_forget q_138 (c_X8_forget hk25) hP hS (WX_0 a g (em S9)) rfl rfl rfl hl (Nat.le_of_ble_eq_true rfl) dX8_view_43 (Nat.le_of_ble_eq_true rfl) (Nat.le_of_ble_eq_true rfl) rfl (fun H locs hP hS => ?_)
              refine lv_aload_n hx hb dX8_view_46 rfl (lv_at hl 0 rfl) ?_
              refine gfWX_HiddenEdges_sight hc hP q_19 dX8_view_47 ?_
              refine lv_iload_n hx hb dX8_view_50 rfl (lv_at hl 1 rfl) ?_
              refine lv_iload_n hx hb dX8_view_51 rfl (lv_at hl 2 rfl) ?_
              refine lv_iload_n hx hb dX8_view_52 rfl (lv_at hl 3 rfl) ?_
              obtain ⟨S26, hk27, h⟩ := ob1_at h
              refine cl_Vv (As := [.int (Int32.ofInt v1), .int (Int32.ofInt v2), .int (Int32.ofInt v3)]) (rest := []) hc k_X6_look q_294 (c_X6_look hk27) hP hS (WX_2 a g (em S24)) rfl rfl rfl hl (Nat.le_of_ble_eq_true rfl) dX8_view_53 (Nat.le_of_ble_eq_true rfl) (Nat.le_of_ble_eq_true rfl) rfl (fun H locs hP hS => ?_)
              refine lv_iconst (v := Int32.ofInt (1 : Int)) hx hb dX8_view_56 (by decide) ?_
              obtain rfl := Option.some.inj h
              exact hr _ _ _ _ dX8_view_57 hP hS
            · replace h := if_yes hq h
              refine lv_bipush (v := Int32.ofInt (-2 : Int)) hx hb dX8_view_39 (by decide) ?_
              obtain rfl := Option.some.inj h
              exact hr _ _ _ _ dX8_view_41 hP hS
      · replace h := if_yes hq h
        refine lv_bipush (v := Int32.ofInt (-2 : Int)) hx hb dX8_view_24 (by decide) ?_
        obtain rfl := Option.some.inj h
        exact hr _ _ _ _ dX8_view_26 hP hS
abbrev rm_X8_view : Room := { frames := 1, cells := 0, slots := 0, locals := 23 }
theorem c_X8_view {l : Launch} {D : va_G} {a : Nat → Nat} {g : Nat → ClassId} {S : SZ} {v1 : Int} {v2 : Int} {v3 : Int} {Z1 : SZ} {r1 : Int} (h : f_X8_view S v1 v2 v3 = some (Z1, r1)) : MetI l D (tysWX g) (WX a g) E0 yX8_view cX8_view 4 (some .int) rm_X8_view [.ref (a 0), .int (Int32.ofInt v1), .int (Int32.ofInt v2), .int (Int32.ofInt v3)] (em S) (em Z1, Int32.ofInt r1) := mk_i (WX_same a g) (by decide) (em Z1, Int32.ofInt r1) (Nat.le_of_ble_eq_true rfl) (fun p e s m args below meth c A Q hc hE hr => t_X8_view (z := (Z1, r1)) hc hr S v1 v2 v3 h)
theorem k_X8_view : CalV RX8 yX8_view cX8_view 4 (some .int) rm_X8_view 3 := ⟨q_291, q_292, q_2, q_293, by decide +kernel, rfl, rfl⟩
set_option maxHeartbeats 4000000 in
set_option maxRecDepth 100000 in
theorem t_X8_turn_p20 {z : SZ × Int} (hc : Cx p R s m args c D (tysWX g) A (WX a g) cX8_turn 4 RX8 2 49) (hr : Rti p l e R s m args below meth c Q D A (WX a g) cX8_turn (em z.1, Int32.ofInt z.2)) : ∀ (fu : Nat) (S : SZ) (v1 : Int) (v2 : Int) (v3 : Int), f_X8_turn_p20 fu S v1 v2 v3 = some z → Go p l e R s m args below meth c Q D A (WX a g) 4 (em S) 20 [(0, .ref (a 0)), (1, .int (Int32.ofInt v1)), (2, .int (Int32.ofInt v2)), (3, .int (Int32.ofInt v3))] [] := by
  obtain ⟨⟨hx, hb, hml, hown, hts⟩, -, -, -, hnf, hno⟩ := id hc
  intro fu
  induction fu with
  | zero =>
    intro S v1 v2 v3 h
    rw [f_X8_turn_p20] at h
    cases h
  | succ fu ih =>
    intro S v1 v2 v3 h H locs ls hP hS hl
    rw [f_X8_turn_p20] at h
    refine lv_iload_n hx hb dX8_turn_20 rfl (lv_at hl 3 rfl) ?_
    refine lv_aload_n hx hb dX8_turn_21 rfl (lv_at hl 0 rfl) ?_
    refine gfWX_HiddenEdges_mesh hc hP q_15 dX8_turn_22 ?_
    refine gzWX_Mesh_points hc hP q_126 dX8_turn_25 ?_
    obtain ⟨h1, h⟩ := chk_at h
    obtain ⟨h2, h⟩ := chk_at h
    refine z_icmp_ge (tgt := 52) hx hb h1 h2 dX8_turn_28 (by decide) (fun hq => ?_) (fun hq => ?_)
    · replace h := if_yes hq h
      refine lv_iload_n hx hb dX8_turn_52 rfl (lv_at hl 2 rfl) ?_
      obtain rfl := Option.some.inj h
      exact hr _ _ _ _ dX8_turn_53 hP hS
    · replace h := if_no hq h
      refine lv_aload_n hx hb dX8_turn_31 rfl (lv_at hl 0 rfl) ?_
      refine gfWX_HiddenEdges_mesh hc hP q_15 dX8_turn_32 ?_
      refine lv_iload_n hx hb dX8_turn_35 rfl (lv_at hl 3 rfl) ?_
      refine lv_iload_n hx hb dX8_turn_36 rfl (lv_at hl 1 rfl) ?_
      obtain ⟨S3, x5, hk4, h⟩ := ob2_at h
      refine cl_Vi (As := [.int (Int32.ofInt v3), .int (Int32.ofInt v1)]) (rest := []) hc k_X4_turnPoint q_308 (c_X4_turnPoint hk4) hP hS (WX_1 a g (em S)) rfl rfl rfl hl (Nat.le_of_ble_eq_true rfl) dX8_turn_37 (Nat.le_of_ble_eq_true rfl) (Nat.le_of_ble_eq_true rfl) rfl (fun H locs hP hS => ?_)
      obtain ⟨h6, h⟩ := chk_at h
      refine z_if_eq (tgt := 46) hx hb h6 dX8_turn_40 (by decide) (fun hq => ?_) (fun hq => ?_)
      · replace h := if_yes hq h
        obtain ⟨x7, ex7⟩ : ∃ y : Int, y = v3 + (1 : Int) := ⟨_, rfl⟩
        replace h := olet_at ex7 h
        refine lv_iinc (v := Int32.ofInt x7) (lv' := [(3, .int (Int32.ofInt x7)), (0, .ref (a 0)), (1, .int (Int32.ofInt v1)), (2, .int (Int32.ofInt v2))]) hx hb dX8_turn_46 hl (k := 3) rfl (by rw [ex7, Int32.ofInt_add]) (by decide) rfl (fun ls hl => ?_)
        refine lv_goto (tgt := 20) hx hb dX8_turn_49 (by decide) ?_
        exact ih S3 v1 v2 x7 h H locs ls hP hS (lv_sub hl [1, 2, 3, 0] rfl)
      · replace h := if_no hq h
        obtain ⟨x8, ex8⟩ : ∃ y : Int, y = v2 + (1 : Int) := ⟨_, rfl⟩
        replace h := olet_at ex8 h
        refine lv_iinc (v := Int32.ofInt x8) (lv' := [(2, .int (Int32.ofInt x8)), (0, .ref (a 0)), (1, .int (Int32.ofInt v1)), (3, .int (Int32.ofInt v3))]) hx hb dX8_turn_43 hl (k := 2) rfl (by rw [ex8, Int32.ofInt_add]) (by decide) rfl (fun ls hl => ?_)
        obtain ⟨x9, ex9⟩ : ∃ y : Int, y = v3 + (1 : Int) := ⟨_, rfl⟩
        replace h := olet_at ex9 h
        refine lv_iinc (v := Int32.ofInt x9) (lv' := [(3, .int (Int32.ofInt x9)), (2, .int (Int32.ofInt x8)), (0, .ref (a 0)), (1, .int (Int32.ofInt v1))]) hx hb dX8_turn_46 hl (k := 3) rfl (by rw [ex9, Int32.ofInt_add]) (by decide) rfl (fun ls hl => ?_)
        refine lv_goto (tgt := 20) hx hb dX8_turn_49 (by decide) ?_
        exact ih S3 v1 x8 x9 h H locs ls hP hS (lv_sub hl [2, 3, 1, 0] rfl)
set_option maxHeartbeats 4000000 in
set_option maxRecDepth 100000 in
theorem t_X8_turn {z : SZ × Int} (hc : Cx p R s m args c D (tysWX g) A (WX a g) cX8_turn 4 RX8 2 49) (hr : Rti p l e R s m args below meth c Q D A (WX a g) cX8_turn (em z.1, Int32.ofInt z.2)) : ∀ (S : SZ) (v1 : Int), f_X8_turn S v1 = some z → Go p l e R s m args below meth c Q D A (WX a g) 4 (em S) 0 [(0, .ref (a 0)), (1, .int (Int32.ofInt v1))] [] := by
  obtain ⟨⟨hx, hb, hml, hown, hts⟩, -, -, -, hnf, hno⟩ := id hc
  intro S v1 h H locs ls hP hS hl
  rw [f_X8_turn] at h
  replace hl : lv_has ls 4 [(0, .ref (a 0)), (1, .int (Int32.ofInt v1))] := hl
  refine lv_iload_n hx hb dX8_turn_0 rfl (lv_at hl 1 rfl) ?_
  obtain ⟨h1, h⟩ := chk_at h
  refine z_if_lt (tgt := 9) hx hb h1 dX8_turn_1 (by decide) (fun hq => ?_) (fun hq => ?_)
  · replace h := if_yes hq h
    refine lv_bipush (v := Int32.ofInt (-2 : Int)) hx hb dX8_turn_9 (by decide) ?_
    obtain rfl := Option.some.inj h
    exact hr _ _ _ _ dX8_turn_11 hP hS
  · replace h := if_no hq h
    refine lv_iload_n hx hb dX8_turn_4 rfl (lv_at hl 1 rfl) ?_
    refine lv_iconst (v := Int32.ofInt (3 : Int)) hx hb dX8_turn_5 (by decide) ?_
    refine z_icmp_le (tgt := 12) hx hb h1 (by decide) dX8_turn_6 (by decide) (fun hq => ?_) (fun hq => ?_)
    · replace h := if_yes hq h
      refine lv_aload_n hx hb dX8_turn_12 rfl (lv_at hl 0 rfl) ?_
      obtain ⟨S2, hk3, h⟩ := ob1_at h
      refine cl_Vv (As := []) (rest := []) hc k_X8_forget q_138 (c_X8_forget hk3) hP hS (WX_0 a g (em S)) rfl rfl rfl hl (Nat.le_of_ble_eq_true rfl) dX8_turn_13 (Nat.le_of_ble_eq_true rfl) (Nat.le_of_ble_eq_true rfl) rfl (fun H locs hP hS => ?_)
      refine lv_iconst (v := Int32.ofInt (0 : Int)) hx hb dX8_turn_16 (by decide) ?_
      refine lv_istore_n (lv' := [(2, .int (Int32.ofInt (0 : Int))), (0, .ref (a 0)), (1, .int (Int32.ofInt v1))]) hx hb dX8_turn_17 rfl hl (by decide) rfl (fun ls hl => ?_)
      refine lv_iconst (v := Int32.ofInt (0 : Int)) hx hb dX8_turn_18 (by decide) ?_
      refine lv_istore_n (lv' := [(3, .int (Int32.ofInt (0 : Int))), (2, .int (Int32.ofInt (0 : Int))), (0, .ref (a 0)), (1, .int (Int32.ofInt v1))]) hx hb dX8_turn_19 rfl hl (by decide) rfl (fun ls hl => ?_)
      exact t_X8_turn_p20 hc hr FU S2 v1 (0 : Int) (0 : Int) h H locs ls hP hS (lv_sub hl [2, 3, 1, 0] rfl)
    · replace h := if_no hq h
      refine lv_bipush (v := Int32.ofInt (-2 : Int)) hx hb dX8_turn_9 (by decide) ?_
      obtain rfl := Option.some.inj h
      exact hr _ _ _ _ dX8_turn_11 hP hS
abbrev rm_X8_turn : Room := { frames := 2, cells := 0, slots := 0, locals := 49 }
theorem c_X8_turn {l : Launch} {D : va_G} {a : Nat → Nat} {g : Nat → ClassId} {S : SZ} {v1 : Int} {Z1 : SZ} {r1 : Int} (h : f_X8_turn S v1 = some (Z1, r1)) : MetI l D (tysWX g) (WX a g) E0 yX8_turn cX8_turn 4 (some .int) rm_X8_turn [.ref (a 0), .int (Int32.ofInt v1)] (em S) (em Z1, Int32.ofInt r1) := mk_i (WX_same a g) (by decide) (em Z1, Int32.ofInt r1) (Nat.le_of_ble_eq_true rfl) (fun p e s m args below meth c A Q hc hE hr => t_X8_turn (z := (Z1, r1)) hc hr S v1 h)
theorem k_X8_turn : CalV RX8 yX8_turn cX8_turn 4 (some .int) rm_X8_turn 1 := ⟨q_305, q_306, q_2, q_307, by decide +kernel, rfl, rfl⟩
set_option maxHeartbeats 4000000 in
set_option maxRecDepth 100000 in
theorem t_X8_move_p103 {z : SZ × Int} (hc : Cx p R s m args c D (tysWX g) A (WX a g) cX8_move 5 RX8 2 43) (hr : Rti p l e R s m args below meth c Q D A (WX a g) cX8_move (em z.1, Int32.ofInt z.2)) : ∀ (fu : Nat) (S : SZ) (v1 : Int) (v2 : Int) (v3 : Int) (v4 : Int), f_X8_move_p103 fu S v1 v2 v3 v4 = some z → Go p l e R s m args below meth c Q D A (WX a g) 5 (em S) 103 [(0, .ref (a 0)), (1, .int (Int32.ofInt v1)), (2, .int (Int32.ofInt v2)), (3, .int (Int32.ofInt v3)), (4, .int (Int32.ofInt v4))] [] := by
  obtain ⟨⟨hx, hb, hml, hown, hts⟩, -, -, -, hnf, hno⟩ := id hc
  intro fu
  induction fu with
  | zero =>
    intro S v1 v2 v3 v4 h
    rw [f_X8_move_p103] at h
    cases h
  | succ fu ih =>
    intro S v1 v2 v3 v4 h H locs ls hP hS hl
    rw [f_X8_move_p103] at h
    refine lv_iload hx hb dX8_move_103 (lv_at hl 4 rfl) ?_
    refine lv_aload_n hx hb dX8_move_105 rfl (lv_at hl 0 rfl) ?_
    refine gfWX_HiddenEdges_mesh hc hP q_15 dX8_move_106 ?_
    refine gzWX_Mesh_points hc hP q_126 dX8_move_109 ?_
    obtain ⟨h1, h⟩ := chk_at h
    obtain ⟨h2, h⟩ := chk_at h
    refine z_icmp_ge (tgt := 166) hx hb h1 h2 dX8_move_112 (by decide) (fun hq => ?_) (fun hq => ?_)
    · replace h := if_yes hq h
      refine lv_iconst (v := Int32.ofInt (1 : Int)) hx hb dX8_move_166 (by decide) ?_
      obtain rfl := Option.some.inj h
      exact hr _ _ _ _ dX8_move_167 hP hS
    · replace h := if_no hq h
      refine lv_aload_n hx hb dX8_move_115 rfl (lv_at hl 0 rfl) ?_
      refine gfWX_HiddenEdges_mesh hc hP q_15 dX8_move_116 ?_
      refine lv_iload hx hb dX8_move_119 (lv_at hl 4 rfl) ?_
      refine lv_aload_n hx hb dX8_move_121 rfl (lv_at hl 0 rfl) ?_
      refine gfWX_HiddenEdges_mesh hc hP q_15 dX8_move_122 ?_
      refine gfWX_Mesh_x hc hP q_320 dX8_move_125 ?_
      refine lv_iload hx hb dX8_move_128 (lv_at hl 4 rfl) ?_
      obtain ⟨h3, h⟩ := chk_at h
      refine azWX_Mesh_x hc hP h3 dX8_move_130 ?_
      refine lv_iload_n hx hb dX8_move_131 rfl (lv_at hl 1 rfl) ?_
      refine z_iadd hx hb dX8_move_132 ?_
      refine lv_aload_n hx hb dX8_move_133 rfl (lv_at hl 0 rfl) ?_
      refine gfWX_HiddenEdges_mesh hc hP q_15 dX8_move_134 ?_
      refine gfWX_Mesh_y hc hP q_321 dX8_move_137 ?_
      refine lv_iload hx hb dX8_move_140 (lv_at hl 4 rfl) ?_
      refine azWX_Mesh_y hc hP h3 dX8_move_142 ?_
      refine lv_iload_n hx hb dX8_move_143 rfl (lv_at hl 2 rfl) ?_
      refine z_iadd hx hb dX8_move_144 ?_
      refine lv_aload_n hx hb dX8_move_145 rfl (lv_at hl 0 rfl) ?_
      refine gfWX_HiddenEdges_mesh hc hP q_15 dX8_move_146 ?_
      refine gfWX_Mesh_z hc hP q_322 dX8_move_149 ?_
      refine lv_iload hx hb dX8_move_152 (lv_at hl 4 rfl) ?_
      refine azWX_Mesh_z hc hP h3 dX8_move_154 ?_
      refine lv_iload_n hx hb dX8_move_155 rfl (lv_at hl 3 rfl) ?_
      refine z_iadd hx hb dX8_move_156 ?_
      obtain ⟨S4, hk5, h⟩ := ob1_at h
      refine cl_Vv (As := [.int (Int32.ofInt v4), .int (Int32.ofInt ((za S 1 (v4).toNat) + v1)), .int (Int32.ofInt ((za S 2 (v4).toNat) + v2)), .int (Int32.ofInt ((za S 3 (v4).toNat) + v3))]) (rest := []) hc k_X4_put q_323 (c_X4_put hk5) hP hS (WX_1 a g (em S)) rfl rfl rfl hl (Nat.le_of_ble_eq_true rfl) dX8_move_157 (Nat.le_of_ble_eq_true rfl) (Nat.le_of_ble_eq_true rfl) rfl (fun H locs hP hS => ?_)
      obtain ⟨x6, ex6⟩ : ∃ y : Int, y = v4 + (1 : Int) := ⟨_, rfl⟩
      replace h := olet_at ex6 h
      refine lv_iinc (v := Int32.ofInt x6) (lv' := [(4, .int (Int32.ofInt x6)), (0, .ref (a 0)), (1, .int (Int32.ofInt v1)), (2, .int (Int32.ofInt v2)), (3, .int (Int32.ofInt v3))]) hx hb dX8_move_160 hl (k := 4) rfl (by rw [ex6, Int32.ofInt_add]) (by decide) rfl (fun ls hl => ?_)
      refine lv_goto (tgt := 103) hx hb dX8_move_163 (by decide) ?_
      exact ih S4 v1 v2 v3 x6 h H locs ls hP hS (lv_sub hl [1, 2, 3, 4, 0] rfl)
set_option maxHeartbeats 4000000 in
set_option maxRecDepth 100000 in
theorem t_X8_move_p33 {z : SZ × Int} (hc : Cx p R s m args c D (tysWX g) A (WX a g) cX8_move 5 RX8 2 43) (hr : Rti p l e R s m args below meth c Q D A (WX a g) cX8_move (em z.1, Int32.ofInt z.2)) : ∀ (fu : Nat) (S : SZ) (v1 : Int) (v2 : Int) (v3 : Int) (v4 : Int), f_X8_move_p33 fu S v1 v2 v3 v4 = some z → Go p l e R s m args below meth c Q D A (WX a g) 5 (em S) 33 [(0, .ref (a 0)), (1, .int (Int32.ofInt v1)), (2, .int (Int32.ofInt v2)), (3, .int (Int32.ofInt v3)), (4, .int (Int32.ofInt v4))] [] := by
  obtain ⟨⟨hx, hb, hml, hown, hts⟩, -, -, -, hnf, hno⟩ := id hc
  intro fu
  induction fu with
  | zero =>
    intro S v1 v2 v3 v4 h
    rw [f_X8_move_p33] at h
    cases h
  | succ fu ih =>
    intro S v1 v2 v3 v4 h H locs ls hP hS hl
    rw [f_X8_move_p33] at h
    refine lv_iload hx hb dX8_move_33 (lv_at hl 4 rfl) ?_
    refine lv_aload_n hx hb dX8_move_35 rfl (lv_at hl 0 rfl) ?_
    refine gfWX_HiddenEdges_mesh hc hP q_15 dX8_move_36 ?_
    refine gzWX_Mesh_points hc hP q_126 dX8_move_39 ?_
    obtain ⟨h1, h⟩ := chk_at h
    obtain ⟨h2, h⟩ := chk_at h
    refine z_icmp_ge (tgt := 96) hx hb h1 h2 dX8_move_42 (by decide) (fun hq => ?_) (fun hq => ?_)
    · replace h := if_yes hq h
      refine lv_aload_n hx hb dX8_move_96 rfl (lv_at hl 0 rfl) ?_
      obtain ⟨S3, hk4, h⟩ := ob1_at h
      refine cl_Vv (As := []) (rest := []) hc k_X8_forget q_138 (c_X8_forget hk4) hP hS (WX_0 a g (em S)) rfl rfl rfl hl (Nat.le_of_ble_eq_true rfl) dX8_move_97 (Nat.le_of_ble_eq_true rfl) (Nat.le_of_ble_eq_true rfl) rfl (fun H locs hP hS => ?_)
      refine lv_iconst (v := Int32.ofInt (0 : Int)) hx hb dX8_move_100 (by decide) ?_
      refine lv_istore (lv' := [(4, .int (Int32.ofInt (0 : Int))), (0, .ref (a 0)), (1, .int (Int32.ofInt v1)), (2, .int (Int32.ofInt v2)), (3, .int (Int32.ofInt v3))]) hx hb dX8_move_101 hl (by decide) rfl (fun ls hl => ?_)
      exact t_X8_move_p103 hc hr FU S3 v1 v2 v3 (0 : Int) h H locs ls hP hS (lv_sub hl [1, 2, 3, 4, 0] rfl)
    · replace h := if_no hq h
      refine lv_aload_n hx hb dX8_move_45 rfl (lv_at hl 0 rfl) ?_
      refine gfWX_HiddenEdges_mesh hc hP q_15 dX8_move_46 ?_
      refine gfWX_Mesh_x hc hP q_320 dX8_move_49 ?_
      refine lv_iload hx hb dX8_move_52 (lv_at hl 4 rfl) ?_
      obtain ⟨h5, h⟩ := chk_at h
      refine azWX_Mesh_x hc hP h5 dX8_move_54 ?_
      refine lv_iload_n hx hb dX8_move_55 rfl (lv_at hl 1 rfl) ?_
      refine z_iadd hx hb dX8_move_56 ?_
      refine lv_aload_n hx hb dX8_move_57 rfl (lv_at hl 0 rfl) ?_
      refine gfWX_HiddenEdges_mesh hc hP q_15 dX8_move_58 ?_
      refine gfWX_Mesh_y hc hP q_321 dX8_move_61 ?_
      refine lv_iload hx hb dX8_move_64 (lv_at hl 4 rfl) ?_
      refine azWX_Mesh_y hc hP h5 dX8_move_66 ?_
      refine lv_iload_n hx hb dX8_move_67 rfl (lv_at hl 2 rfl) ?_
      refine z_iadd hx hb dX8_move_68 ?_
      refine lv_aload_n hx hb dX8_move_69 rfl (lv_at hl 0 rfl) ?_
      refine gfWX_HiddenEdges_mesh hc hP q_15 dX8_move_70 ?_
      refine gfWX_Mesh_z hc hP q_322 dX8_move_73 ?_
      refine lv_iload hx hb dX8_move_76 (lv_at hl 4 rfl) ?_
      refine azWX_Mesh_z hc hP h5 dX8_move_78 ?_
      refine lv_iload_n hx hb dX8_move_79 rfl (lv_at hl 3 rfl) ?_
      refine z_iadd hx hb dX8_move_80 ?_
      obtain ⟨S6, x8, hk7, h⟩ := ob2_at h
      refine cl_Si (As := [.int (Int32.ofInt ((za S 1 (v4).toNat) + v1)), .int (Int32.ofInt ((za S 2 (v4).toNat) + v2)), .int (Int32.ofInt ((za S 3 (v4).toNat) + v3))]) (rest := []) hc k_X8_isPlace q_127 (c_X8_isPlace hk7) hP hS rfl hl (Nat.le_of_ble_eq_true rfl) dX8_move_81 (Nat.le_of_ble_eq_true rfl) (Nat.le_of_ble_eq_true rfl) rfl (fun H locs hP hS => ?_)
      obtain ⟨h9, h⟩ := chk_at h
      refine z_if_ne (tgt := 90) hx hb h9 dX8_move_84 (by decide) (fun hq => ?_) (fun hq => ?_)
      · replace h := if_no hq h
        obtain ⟨x10, ex10⟩ : ∃ y : Int, y = v4 + (1 : Int) := ⟨_, rfl⟩
        replace h := olet_at ex10 h
        refine lv_iinc (v := Int32.ofInt x10) (lv' := [(4, .int (Int32.ofInt x10)), (0, .ref (a 0)), (1, .int (Int32.ofInt v1)), (2, .int (Int32.ofInt v2)), (3, .int (Int32.ofInt v3))]) hx hb dX8_move_90 hl (k := 4) rfl (by rw [ex10, Int32.ofInt_add]) (by decide) rfl (fun ls hl => ?_)
        refine lv_goto (tgt := 33) hx hb dX8_move_93 (by decide) ?_
        exact ih S6 v1 v2 v3 x10 h H locs ls hP hS (lv_sub hl [1, 2, 3, 4, 0] rfl)
      · replace h := if_yes hq h
        refine lv_bipush (v := Int32.ofInt (-3 : Int)) hx hb dX8_move_87 (by decide) ?_
        obtain rfl := Option.some.inj h
        exact hr _ _ _ _ dX8_move_89 hP hS
set_option maxHeartbeats 4000000 in
set_option maxRecDepth 100000 in
theorem t_X8_move {z : SZ × Int} (hc : Cx p R s m args c D (tysWX g) A (WX a g) cX8_move 5 RX8 2 43) (hr : Rti p l e R s m args below meth c Q D A (WX a g) cX8_move (em z.1, Int32.ofInt z.2)) : ∀ (S : SZ) (v1 : Int) (v2 : Int) (v3 : Int), f_X8_move S v1 v2 v3 = some z → Go p l e R s m args below meth c Q D A (WX a g) 5 (em S) 0 [(0, .ref (a 0)), (1, .int (Int32.ofInt v1)), (2, .int (Int32.ofInt v2)), (3, .int (Int32.ofInt v3))] [] := by
  obtain ⟨⟨hx, hb, hml, hown, hts⟩, -, -, -, hnf, hno⟩ := id hc
  intro S v1 v2 v3 h H locs ls hP hS hl
  rw [f_X8_move] at h
  replace hl : lv_has ls 5 [(0, .ref (a 0)), (1, .int (Int32.ofInt v1)), (2, .int (Int32.ofInt v2)), (3, .int (Int32.ofInt v3))] := hl
  refine lv_iload_n hx hb dX8_move_0 rfl (lv_at hl 1 rfl) ?_
  refine lv_bipush (v := Int32.ofInt (18 : Int)) hx hb dX8_move_1 (by decide) ?_
  obtain ⟨S1, x3, hk2, h⟩ := ob2_at h
  refine cl_Si (As := [.int (Int32.ofInt v1), .int (Int32.ofInt (18 : Int))]) (rest := []) hc k_X8_within q_130 (c_X8_within hk2) hP hS rfl hl (Nat.le_of_ble_eq_true rfl) dX8_move_3 (Nat.le_of_ble_eq_true rfl) (Nat.le_of_ble_eq_true rfl) rfl (fun H locs hP hS => ?_)
  obtain ⟨h4, h⟩ := chk_at h
  refine z_if_eq (tgt := 27) hx hb h4 dX8_move_6 (by decide) (fun hq => ?_) (fun hq => ?_)
  · replace h := if_yes hq h
    refine lv_bipush (v := Int32.ofInt (-2 : Int)) hx hb dX8_move_27 (by decide) ?_
    obtain rfl := Option.some.inj h
    exact hr _ _ _ _ dX8_move_29 hP hS
  · replace h := if_no hq h
    refine lv_iload_n hx hb dX8_move_9 rfl (lv_at hl 2 rfl) ?_
    refine lv_bipush (v := Int32.ofInt (18 : Int)) hx hb dX8_move_10 (by decide) ?_
    obtain ⟨S5, x7, hk6, h⟩ := ob2_at h
    refine cl_Si (As := [.int (Int32.ofInt v2), .int (Int32.ofInt (18 : Int))]) (rest := []) hc k_X8_within q_130 (c_X8_within hk6) hP hS rfl hl (Nat.le_of_ble_eq_true rfl) dX8_move_12 (Nat.le_of_ble_eq_true rfl) (Nat.le_of_ble_eq_true rfl) rfl (fun H locs hP hS => ?_)
    obtain ⟨h8, h⟩ := chk_at h
    refine z_if_eq (tgt := 27) hx hb h8 dX8_move_15 (by decide) (fun hq => ?_) (fun hq => ?_)
    · replace h := if_yes hq h
      refine lv_bipush (v := Int32.ofInt (-2 : Int)) hx hb dX8_move_27 (by decide) ?_
      obtain rfl := Option.some.inj h
      exact hr _ _ _ _ dX8_move_29 hP hS
    · replace h := if_no hq h
      refine lv_iload_n hx hb dX8_move_18 rfl (lv_at hl 3 rfl) ?_
      refine lv_bipush (v := Int32.ofInt (18 : Int)) hx hb dX8_move_19 (by decide) ?_
      obtain ⟨S9, x11, hk10, h⟩ := ob2_at h
      refine cl_Si (As := [.int (Int32.ofInt v3), .int (Int32.ofInt (18 : Int))]) (rest := []) hc k_X8_within q_130 (c_X8_within hk10) hP hS rfl hl (Nat.le_of_ble_eq_true rfl) dX8_move_21 (Nat.le_of_ble_eq_true rfl) (Nat.le_of_ble_eq_true rfl) rfl (fun H locs hP hS => ?_)
      obtain ⟨h12, h⟩ := chk_at h
      refine z_if_ne (tgt := 30) hx hb h12 dX8_move_24 (by decide) (fun hq => ?_) (fun hq => ?_)
      · replace h := if_no hq h
        refine lv_iconst (v := Int32.ofInt (0 : Int)) hx hb dX8_move_30 (by decide) ?_
        refine lv_istore (lv' := [(4, .int (Int32.ofInt (0 : Int))), (0, .ref (a 0)), (1, .int (Int32.ofInt v1)), (2, .int (Int32.ofInt v2)), (3, .int (Int32.ofInt v3))]) hx hb dX8_move_31 hl (by decide) rfl (fun ls hl => ?_)
        exact t_X8_move_p33 hc hr FU S9 v1 v2 v3 (0 : Int) h H locs ls hP hS (lv_sub hl [1, 2, 3, 4, 0] rfl)
      · replace h := if_yes hq h
        refine lv_bipush (v := Int32.ofInt (-2 : Int)) hx hb dX8_move_27 (by decide) ?_
        obtain rfl := Option.some.inj h
        exact hr _ _ _ _ dX8_move_29 hP hS
abbrev rm_X8_move : Room := { frames := 2, cells := 0, slots := 0, locals := 43 }
theorem c_X8_move {l : Launch} {D : va_G} {a : Nat → Nat} {g : Nat → ClassId} {S : SZ} {v1 : Int} {v2 : Int} {v3 : Int} {Z1 : SZ} {r1 : Int} (h : f_X8_move S v1 v2 v3 = some (Z1, r1)) : MetI l D (tysWX g) (WX a g) E0 yX8_move cX8_move 5 (some .int) rm_X8_move [.ref (a 0), .int (Int32.ofInt v1), .int (Int32.ofInt v2), .int (Int32.ofInt v3)] (em S) (em Z1, Int32.ofInt r1) := mk_i (WX_same a g) (by decide) (em Z1, Int32.ofInt r1) (Nat.le_of_ble_eq_true rfl) (fun p e s m args below meth c A Q hc hE hr => t_X8_move (z := (Z1, r1)) hc hr S v1 v2 v3 h)
theorem k_X8_move : CalV RX8 yX8_move cX8_move 5 (some .int) rm_X8_move 3 := ⟨q_317, q_318, q_2, q_319, by decide +kernel, rfl, rfl⟩
set_option maxHeartbeats 4000000 in
set_option maxRecDepth 100000 in
theorem t_X8_ofPoint {z : SZ × Int} (hc : Cx p R s m args c D (tysWX g) A (WX a g) cX8_ofPoint 3 RX8 6 157) (hr : Rti p l e R s m args below meth c Q D A (WX a g) cX8_ofPoint (em z.1, Int32.ofInt z.2)) : ∀ (S : SZ) (v1 : Int) (v2 : Int), f_X8_ofPoint S v1 v2 = some z → Go p l e R s m args below meth c Q D A (WX a g) 3 (em S) 0 [(0, .ref (a 0)), (1, .int (Int32.ofInt v1)), (2, .int (Int32.ofInt v2))] [] := by
  obtain ⟨⟨hx, hb, hml, hown, hts⟩, -, -, -, hnf, hno⟩ := id hc
  intro S v1 v2 h H locs ls hP hS hl
  rw [f_X8_ofPoint] at h
  replace hl : lv_has ls 3 [(0, .ref (a 0)), (1, .int (Int32.ofInt v1)), (2, .int (Int32.ofInt v2))] := hl
  refine lv_aload_n hx hb dX8_ofPoint_0 rfl (lv_at hl 0 rfl) ?_
  refine gfWX_HiddenEdges_mesh hc hP q_15 dX8_ofPoint_1 ?_
  refine lv_iload_n hx hb dX8_ofPoint_4 rfl (lv_at hl 1 rfl) ?_
  obtain ⟨S1, x3, hk2, h⟩ := ob2_at h
  refine cl_Vi (As := [.int (Int32.ofInt v1)]) (rest := []) hc k_X4_hasPoint q_175 (c_X4_hasPoint hk2) hP hS (WX_1 a g (em S)) rfl rfl rfl hl (Nat.le_of_ble_eq_true rfl) dX8_ofPoint_5 (Nat.le_of_ble_eq_true rfl) (Nat.le_of_ble_eq_true rfl) rfl (fun H locs hP hS => ?_)
  obtain ⟨h4, h⟩ := chk_at h
  refine z_if_ne (tgt := 13) hx hb h4 dX8_ofPoint_8 (by decide) (fun hq => ?_) (fun hq => ?_)
  · replace h := if_no hq h
    refine lv_iload_n hx hb dX8_ofPoint_13 rfl (lv_at hl 2 rfl) ?_
    obtain ⟨h5, h⟩ := chk_at h
    by_cases hsw : v2 < 0 ∨ 4 < v2
    · replace h := if_yes hsw h
      refine lv_tableOut (tgt := 118) hx hb dX8_ofPoint_14 (by rw [o32 h5]; exact hsw) (by decide) ?_
      refine lv_bipush (v := Int32.ofInt (-2 : Int)) hx hb dX8_ofPoint_118 (by decide) ?_
      obtain rfl := Option.some.inj h
      exact hr _ _ _ _ dX8_ofPoint_120 hP hS
    replace h := if_no hsw h
    by_cases hs0 : v2 = 0
    · replace h := if_yes hs0 h
      refine lv_tableIn (off := 34) (tgt := 48) hx hb dX8_ofPoint_14 (by rw [o32 h5]; exact fun h9 => hsw (Or.inl h9)) (by rw [o32 h5]; exact fun h9 => hsw (Or.inr h9)) (by rw [o32 h5, hs0]; rfl) (by decide) ?_
      refine lv_aload_n hx hb dX8_ofPoint_48 rfl (lv_at hl 0 rfl) ?_
      refine gfWX_HiddenEdges_mesh hc hP q_15 dX8_ofPoint_49 ?_
      refine gfWX_Mesh_x hc hP q_320 dX8_ofPoint_52 ?_
      refine lv_iload_n hx hb dX8_ofPoint_55 rfl (lv_at hl 1 rfl) ?_
      obtain ⟨h6, h⟩ := chk_at h
      refine azWX_Mesh_x hc hP h6 dX8_ofPoint_56 ?_
      refine lv_bipush (v := Int32.ofInt (10 : Int)) hx hb dX8_ofPoint_57 (by decide) ?_
      refine z_iadd hx hb dX8_ofPoint_59 ?_
      obtain rfl := Option.some.inj h
      exact hr _ _ _ _ dX8_ofPoint_60 hP hS
    replace h := if_no hs0 h
    by_cases hs1 : v2 = 1
    · replace h := if_yes hs1 h
      refine lv_tableIn (off := 47) (tgt := 61) hx hb dX8_ofPoint_14 (by rw [o32 h5]; exact fun h9 => hsw (Or.inl h9)) (by rw [o32 h5]; exact fun h9 => hsw (Or.inr h9)) (by rw [o32 h5, hs1]; rfl) (by decide) ?_
      refine lv_aload_n hx hb dX8_ofPoint_61 rfl (lv_at hl 0 rfl) ?_
      refine gfWX_HiddenEdges_mesh hc hP q_15 dX8_ofPoint_62 ?_
      refine gfWX_Mesh_y hc hP q_321 dX8_ofPoint_65 ?_
      refine lv_iload_n hx hb dX8_ofPoint_68 rfl (lv_at hl 1 rfl) ?_
      obtain ⟨h7, h⟩ := chk_at h
      refine azWX_Mesh_y hc hP h7 dX8_ofPoint_69 ?_
      refine lv_bipush (v := Int32.ofInt (10 : Int)) hx hb dX8_ofPoint_70 (by decide) ?_
      refine z_iadd hx hb dX8_ofPoint_72 ?_
      obtain rfl := Option.some.inj h
      exact hr _ _ _ _ dX8_ofPoint_73 hP hS
    replace h := if_no hs1 h
    by_cases hs2 : v2 = 2
    · replace h := if_yes hs2 h
      refine lv_tableIn (off := 60) (tgt := 74) hx hb dX8_ofPoint_14 (by rw [o32 h5]; exact fun h9 => hsw (Or.inl h9)) (by rw [o32 h5]; exact fun h9 => hsw (Or.inr h9)) (by rw [o32 h5, hs2]; rfl) (by decide) ?_
      refine lv_aload_n hx hb dX8_ofPoint_74 rfl (lv_at hl 0 rfl) ?_
      refine gfWX_HiddenEdges_mesh hc hP q_15 dX8_ofPoint_75 ?_
      refine gfWX_Mesh_z hc hP q_322 dX8_ofPoint_78 ?_
      refine lv_iload_n hx hb dX8_ofPoint_81 rfl (lv_at hl 1 rfl) ?_
      obtain ⟨h8, h⟩ := chk_at h
      refine azWX_Mesh_z hc hP h8 dX8_ofPoint_82 ?_
      refine lv_bipush (v := Int32.ofInt (10 : Int)) hx hb dX8_ofPoint_83 (by decide) ?_
      refine z_iadd hx hb dX8_ofPoint_85 ?_
      obtain rfl := Option.some.inj h
      exact hr _ _ _ _ dX8_ofPoint_86 hP hS
    replace h := if_no hs2 h
    by_cases hs3 : v2 = 3
    · replace h := if_yes hs3 h
      refine lv_tableIn (off := 73) (tgt := 87) hx hb dX8_ofPoint_14 (by rw [o32 h5]; exact fun h9 => hsw (Or.inl h9)) (by rw [o32 h5]; exact fun h9 => hsw (Or.inr h9)) (by rw [o32 h5, hs3]; rfl) (by decide) ?_
      refine lv_aload_n hx hb dX8_ofPoint_87 rfl (lv_at hl 0 rfl) ?_
      refine lv_iconst (v := Int32.ofInt (1 : Int)) hx hb dX8_ofPoint_88 (by decide) ?_
      obtain ⟨S9, hk10, h⟩ := ob1_at h
      refine cl_Vv (As := [.int (Int32.ofInt (1 : Int))]) (rest := []) hc k_X8_settle q_332 (c_X8_settle hk10) hP hS (WX_0 a g (em S1)) rfl rfl rfl hl (Nat.le_of_ble_eq_true rfl) dX8_ofPoint_89 (Nat.le_of_ble_eq_true rfl) (Nat.le_of_ble_eq_true rfl) rfl (fun H locs hP hS => ?_)
      refine lv_aload_n hx hb dX8_ofPoint_92 rfl (lv_at hl 0 rfl) ?_
      refine gfWX_HiddenEdges_sight hc hP q_19 dX8_ofPoint_93 ?_
      refine lv_iload_n hx hb dX8_ofPoint_96 rfl (lv_at hl 1 rfl) ?_
      refine lv_iload_n hx hb dX8_ofPoint_97 rfl (lv_at hl 1 rfl) ?_
      refine lv_iconst (v := Int32.ofInt (0 : Int)) hx hb dX8_ofPoint_98 (by decide) ?_
      refine lv_iconst (v := Int32.ofInt (1 : Int)) hx hb dX8_ofPoint_99 (by decide) ?_
      obtain ⟨S11, x13, hk12, h⟩ := ob2_at h
      refine cl_Vi (As := [.int (Int32.ofInt v1), .int (Int32.ofInt v1), .int (Int32.ofInt (0 : Int)), .int (Int32.ofInt (1 : Int))]) (rest := []) hc k_X6_countHiding q_527 (c_X6_countHiding hk12) hP hS (WX_2 a g (em S9)) rfl rfl rfl hl (Nat.le_of_ble_eq_true rfl) dX8_ofPoint_100 (Nat.le_of_ble_eq_true rfl) (Nat.le_of_ble_eq_true rfl) rfl (fun H locs hP hS => ?_)
      obtain rfl := Option.some.inj h
      exact hr _ _ _ _ dX8_ofPoint_103 hP hS
    replace h := if_no hs3 h
    by_cases hs4 : v2 = 4
    · replace h := if_yes hs4 h
      refine lv_tableIn (off := 90) (tgt := 104) hx hb dX8_ofPoint_14 (by rw [o32 h5]; exact fun h9 => hsw (Or.inl h9)) (by rw [o32 h5]; exact fun h9 => hsw (Or.inr h9)) (by rw [o32 h5, hs4]; rfl) (by decide) ?_
      refine lv_aload_n hx hb dX8_ofPoint_104 rfl (lv_at hl 0 rfl) ?_
      refine lv_iconst (v := Int32.ofInt (1 : Int)) hx hb dX8_ofPoint_105 (by decide) ?_
      obtain ⟨S14, hk15, h⟩ := ob1_at h
      refine cl_Vv (As := [.int (Int32.ofInt (1 : Int))]) (rest := []) hc k_X8_settle q_332 (c_X8_settle hk15) hP hS (WX_0 a g (em S1)) rfl rfl rfl hl (Nat.le_of_ble_eq_true rfl) dX8_ofPoint_106 (Nat.le_of_ble_eq_true rfl) (Nat.le_of_ble_eq_true rfl) rfl (fun H locs hP hS => ?_)
      refine lv_aload_n hx hb dX8_ofPoint_109 rfl (lv_at hl 0 rfl) ?_
      refine gfWX_HiddenEdges_edges hc hP q_23 dX8_ofPoint_110 ?_
      refine lv_iload_n hx hb dX8_ofPoint_113 rfl (lv_at hl 1 rfl) ?_
      obtain ⟨S16, x18, hk17, h⟩ := ob2_at h
      refine cl_Vi (As := [.int (Int32.ofInt v1)]) (rest := []) hc k_X1_countAt q_531 (c_X1_countAt hk17) hP hS (WX_3 a g (em S14)) rfl rfl rfl hl (Nat.le_of_ble_eq_true rfl) dX8_ofPoint_114 (Nat.le_of_ble_eq_true rfl) (Nat.le_of_ble_eq_true rfl) rfl (fun H locs hP hS => ?_)
      obtain rfl := Option.some.inj h
      exact hr _ _ _ _ dX8_ofPoint_117 hP hS
    replace h := if_no hs4 h
    cases h
  · replace h := if_yes hq h
    refine lv_iconst (v := Int32.ofInt (-1 : Int)) hx hb dX8_ofPoint_11 (by decide) ?_
    obtain rfl := Option.some.inj h
    exact hr _ _ _ _ dX8_ofPoint_12 hP hS
abbrev rm_X8_ofPoint : Room := { frames := 6, cells := 0, slots := 0, locals := 157 }
theorem c_X8_ofPoint {l : Launch} {D : va_G} {a : Nat → Nat} {g : Nat → ClassId} {S : SZ} {v1 : Int} {v2 : Int} {Z1 : SZ} {r1 : Int} (h : f_X8_ofPoint S v1 v2 = some (Z1, r1)) : MetI l D (tysWX g) (WX a g) E0 yX8_ofPoint cX8_ofPoint 3 (some .int) rm_X8_ofPoint [.ref (a 0), .int (Int32.ofInt v1), .int (Int32.ofInt v2)] (em S) (em Z1, Int32.ofInt r1) := mk_i (WX_same a g) (by decide) (em Z1, Int32.ofInt r1) (Nat.le_of_ble_eq_true rfl) (fun p e s m args below meth c A Q hc hE hr => t_X8_ofPoint (z := (Z1, r1)) hc hr S v1 v2 h)
theorem k_X8_ofPoint : CalV RX8 yX8_ofPoint cX8_ofPoint 3 (some .int) rm_X8_ofPoint 2 := ⟨q_329, q_330, q_2, q_331, by decide +kernel, rfl, rfl⟩
end W
