section W
variable {p : Program} {l : Launch} {e : Env} {R : Room} {s : State} {m : MethodId} {args : Array Value} {below : List Frame} {meth : Method} {c : Code} {Q : State → Prop} {D : va_G} {A : Nat → Prop} {a : Nat → Nat} {g : Nat → ClassId}
set_option maxHeartbeats 4000000 in
set_option maxRecDepth 100000 in
theorem t_X4_pointAt_p3 {z : SZ × Int} (hc : Cx p R s m args c D (tysWX g) A (WX a g) cX4_pointAt 5 RX4 0 0) (hr : Rti p l e R s m args below meth c Q D A (WX a g) cX4_pointAt (em z.1, Int32.ofInt z.2)) : ∀ (fu : Nat) (S : SZ) (v1 : Int) (v2 : Int) (v3 : Int) (v4 : Int), f_X4_pointAt_p3 fu S v1 v2 v3 v4 = some z → Go p l e R s m args below meth c Q D A (WX a g) 5 (em S) 3 [(0, .ref (a 1)), (1, .int (Int32.ofInt v1)), (2, .int (Int32.ofInt v2)), (3, .int (Int32.ofInt v3)), (4, .int (Int32.ofInt v4))] [] := by
  obtain ⟨⟨hx, hb, hml, hown, hts⟩, -, -, -, hnf, hno⟩ := id hc
  intro fu
  induction fu with
  | zero =>
    intro S v1 v2 v3 v4 h
    rw [f_X4_pointAt_p3] at h
    cases h
  | succ fu ih =>
    intro S v1 v2 v3 v4 h H locs ls hP hS hl
    rw [f_X4_pointAt_p3] at h
    refine lv_iload hx hb dX4_pointAt_3 (lv_at hl 4 rfl) ?_
    refine lv_aload_n hx hb dX4_pointAt_5 rfl (lv_at hl 0 rfl) ?_
    refine gzWX_Mesh_points hc hP q_137 dX4_pointAt_6 ?_
    obtain ⟨h1, h⟩ := chk_at h
    obtain ⟨h2, h⟩ := chk_at h
    refine z_icmp_ge (tgt := 54) hx hb h1 h2 dX4_pointAt_9 (by decide) (fun hq => ?_) (fun hq => ?_)
    · replace h := if_yes hq h
      refine lv_bipush (v := Int32.ofInt (-9 : Int)) hx hb dX4_pointAt_54 (by decide) ?_
      obtain rfl := Option.some.inj h
      exact hr _ _ _ _ dX4_pointAt_56 hP hS
    · replace h := if_no hq h
      refine lv_aload_n hx hb dX4_pointAt_12 rfl (lv_at hl 0 rfl) ?_
      refine gfWX_Mesh_x hc hP q_47 dX4_pointAt_13 ?_
      refine lv_iload hx hb dX4_pointAt_16 (lv_at hl 4 rfl) ?_
      obtain ⟨h3, h⟩ := chk_at h
      refine azWX_Mesh_x hc hP h3 dX4_pointAt_18 ?_
      refine lv_iload_n hx hb dX4_pointAt_19 rfl (lv_at hl 1 rfl) ?_
      obtain ⟨h4, h⟩ := chk_at h
      obtain ⟨h5, h⟩ := chk_at h
      refine z_icmp_ne (tgt := 48) hx hb h4 h5 dX4_pointAt_20 (by decide) (fun hq => ?_) (fun hq => ?_)
      · replace h := if_no hq h
        obtain ⟨x6, ex6⟩ : ∃ y : Int, y = v4 + (1 : Int) := ⟨_, rfl⟩
        replace h := olet_at ex6 h
        refine lv_iinc (v := Int32.ofInt x6) (lv' := [(4, .int (Int32.ofInt x6)), (0, .ref (a 1)), (1, .int (Int32.ofInt v1)), (2, .int (Int32.ofInt v2)), (3, .int (Int32.ofInt v3))]) hx hb dX4_pointAt_48 hl (k := 4) rfl (by rw [ex6, Int32.ofInt_add]) (by decide) rfl (fun ls hl => ?_)
        refine lv_goto (tgt := 3) hx hb dX4_pointAt_51 (by decide) ?_
        exact ih S v1 v2 v3 x6 h H locs ls hP hS (lv_sub hl [1, 2, 3, 4, 0] rfl)
      · replace h := if_yes hq h
        refine lv_aload_n hx hb dX4_pointAt_23 rfl (lv_at hl 0 rfl) ?_
        refine gfWX_Mesh_y hc hP q_48 dX4_pointAt_24 ?_
        refine lv_iload hx hb dX4_pointAt_27 (lv_at hl 4 rfl) ?_
        refine azWX_Mesh_y hc hP h3 dX4_pointAt_29 ?_
        refine lv_iload_n hx hb dX4_pointAt_30 rfl (lv_at hl 2 rfl) ?_
        obtain ⟨h7, h⟩ := chk_at h
        obtain ⟨h8, h⟩ := chk_at h
        refine z_icmp_ne (tgt := 48) hx hb h7 h8 dX4_pointAt_31 (by decide) (fun hq => ?_) (fun hq => ?_)
        · replace h := if_no hq h
          obtain ⟨x9, ex9⟩ : ∃ y : Int, y = v4 + (1 : Int) := ⟨_, rfl⟩
          replace h := olet_at ex9 h
          refine lv_iinc (v := Int32.ofInt x9) (lv' := [(4, .int (Int32.ofInt x9)), (0, .ref (a 1)), (1, .int (Int32.ofInt v1)), (2, .int (Int32.ofInt v2)), (3, .int (Int32.ofInt v3))]) hx hb dX4_pointAt_48 hl (k := 4) rfl (by rw [ex9, Int32.ofInt_add]) (by decide) rfl (fun ls hl => ?_)
          refine lv_goto (tgt := 3) hx hb dX4_pointAt_51 (by decide) ?_
          exact ih S v1 v2 v3 x9 h H locs ls hP hS (lv_sub hl [1, 2, 3, 4, 0] rfl)
        · replace h := if_yes hq h
          refine lv_aload_n hx hb dX4_pointAt_34 rfl (lv_at hl 0 rfl) ?_
          refine gfWX_Mesh_z hc hP q_49 dX4_pointAt_35 ?_
          refine lv_iload hx hb dX4_pointAt_38 (lv_at hl 4 rfl) ?_
          refine azWX_Mesh_z hc hP h3 dX4_pointAt_40 ?_
          refine lv_iload_n hx hb dX4_pointAt_41 rfl (lv_at hl 3 rfl) ?_
          obtain ⟨h10, h⟩ := chk_at h
          obtain ⟨h11, h⟩ := chk_at h
          refine z_icmp_ne (tgt := 48) hx hb h10 h11 dX4_pointAt_42 (by decide) (fun hq => ?_) (fun hq => ?_)
          · replace h := if_no hq h
            obtain ⟨x12, ex12⟩ : ∃ y : Int, y = v4 + (1 : Int) := ⟨_, rfl⟩
            replace h := olet_at ex12 h
            refine lv_iinc (v := Int32.ofInt x12) (lv' := [(4, .int (Int32.ofInt x12)), (0, .ref (a 1)), (1, .int (Int32.ofInt v1)), (2, .int (Int32.ofInt v2)), (3, .int (Int32.ofInt v3))]) hx hb dX4_pointAt_48 hl (k := 4) rfl (by rw [ex12, Int32.ofInt_add]) (by decide) rfl (fun ls hl => ?_)
            refine lv_goto (tgt := 3) hx hb dX4_pointAt_51 (by decide) ?_
            exact ih S v1 v2 v3 x12 h H locs ls hP hS (lv_sub hl [1, 2, 3, 4, 0] rfl)
          · replace h := if_yes hq h
            refine lv_iload hx hb dX4_pointAt_45 (lv_at hl 4 rfl) ?_
            obtain rfl := Option.some.inj h
            exact hr _ _ _ _ dX4_pointAt_47 hP hS
set_option maxHeartbeats 4000000 in
set_option maxRecDepth 100000 in
theorem t_X4_pointAt {z : SZ × Int} (hc : Cx p R s m args c D (tysWX g) A (WX a g) cX4_pointAt 5 RX4 0 0) (hr : Rti p l e R s m args below meth c Q D A (WX a g) cX4_pointAt (em z.1, Int32.ofInt z.2)) : ∀ (S : SZ) (v1 : Int) (v2 : Int) (v3 : Int), f_X4_pointAt S v1 v2 v3 = some z → Go p l e R s m args below meth c Q D A (WX a g) 5 (em S) 0 [(0, .ref (a 1)), (1, .int (Int32.ofInt v1)), (2, .int (Int32.ofInt v2)), (3, .int (Int32.ofInt v3))] [] := by
  obtain ⟨⟨hx, hb, hml, hown, hts⟩, -, -, -, hnf, hno⟩ := id hc
  intro S v1 v2 v3 h H locs ls hP hS hl
  rw [f_X4_pointAt] at h
  replace hl : lv_has ls 5 [(0, .ref (a 1)), (1, .int (Int32.ofInt v1)), (2, .int (Int32.ofInt v2)), (3, .int (Int32.ofInt v3))] := hl
  refine lv_iconst (v := Int32.ofInt (0 : Int)) hx hb dX4_pointAt_0 (by decide) ?_
  refine lv_istore (lv' := [(4, .int (Int32.ofInt (0 : Int))), (0, .ref (a 1)), (1, .int (Int32.ofInt v1)), (2, .int (Int32.ofInt v2)), (3, .int (Int32.ofInt v3))]) hx hb dX4_pointAt_1 hl (by decide) rfl (fun ls hl => ?_)
  exact t_X4_pointAt_p3 hc hr FU S v1 v2 v3 (0 : Int) h H locs ls hP hS (lv_sub hl [1, 2, 3, 4, 0] rfl)
abbrev rm_X4_pointAt : Room := { frames := 0, cells := 0, slots := 0, locals := 0 }
theorem c_X4_pointAt {l : Launch} {D : va_G} {a : Nat → Nat} {g : Nat → ClassId} {S : SZ} {v1 : Int} {v2 : Int} {v3 : Int} {Z1 : SZ} {r1 : Int} (h : f_X4_pointAt S v1 v2 v3 = some (Z1, r1)) : MetI l D (tysWX g) (WX a g) E0 yX4_pointAt cX4_pointAt 5 (some .int) rm_X4_pointAt [.ref (a 1), .int (Int32.ofInt v1), .int (Int32.ofInt v2), .int (Int32.ofInt v3)] (em S) (em Z1, Int32.ofInt r1) := mk_i (WX_same a g) (by decide) (em Z1, Int32.ofInt r1) (Nat.le_of_ble_eq_true rfl) (fun p e s m args below meth c A Q hc hE hr => t_X4_pointAt (z := (Z1, r1)) hc hr S v1 v2 v3 h)
theorem k_X4_pointAt : CalV RX4 yX4_pointAt cX4_pointAt 5 (some .int) rm_X4_pointAt 3 := ⟨q_134, q_135, q_14, q_136, by decide +kernel, rfl, rfl⟩
set_option maxHeartbeats 4000000 in
set_option maxRecDepth 100000 in
theorem t_X4_put {z : SZ} (hc : Cx p R s m args c D (tysWX g) A (WX a g) cX4_put 5 RX4 0 0) (hr : Rtv p l e R s m args below meth c Q D A (WX a g) cX4_put (em z)) : ∀ (S : SZ) (v1 : Int) (v2 : Int) (v3 : Int) (v4 : Int), f_X4_put S v1 v2 v3 v4 = some z → Go p l e R s m args below meth c Q D A (WX a g) 5 (em S) 0 [(0, .ref (a 1)), (1, .int (Int32.ofInt v1)), (2, .int (Int32.ofInt v2)), (3, .int (Int32.ofInt v3)), (4, .int (Int32.ofInt v4))] [] := by
  obtain ⟨⟨hx, hb, hml, hown, hts⟩, -, -, -, hnf, hno⟩ := id hc
  intro S v1 v2 v3 v4 h H locs ls hP hS hl
  rw [f_X4_put] at h
  replace hl : lv_has ls 5 [(0, .ref (a 1)), (1, .int (Int32.ofInt v1)), (2, .int (Int32.ofInt v2)), (3, .int (Int32.ofInt v3)), (4, .int (Int32.ofInt v4))] := hl
  refine lv_aload_n hx hb dX4_put_0 rfl (lv_at hl 0 rfl) ?_
  refine gfWX_Mesh_x hc hP q_47 dX4_put_1 ?_
  refine lv_iload_n hx hb dX4_put_4 rfl (lv_at hl 1 rfl) ?_
  refine lv_iload_n hx hb dX4_put_5 rfl (lv_at hl 2 rfl) ?_
  obtain ⟨h1, h⟩ := chk_at h
  refine szWX_Mesh_x hc hP hS h1 dX4_put_6 (fun H locs hP hS => ?_)
  obtain ⟨S2, eS2⟩ : ∃ z, z = ua S 1 (v1).toNat v2 := ⟨_, rfl⟩
  replace h := olet_at eS2 h
  rw [← eS2] at hP
  refine lv_aload_n hx hb dX4_put_7 rfl (lv_at hl 0 rfl) ?_
  refine gfWX_Mesh_y hc hP q_48 dX4_put_8 ?_
  refine lv_iload_n hx hb dX4_put_11 rfl (lv_at hl 1 rfl) ?_
  refine lv_iload_n hx hb dX4_put_12 rfl (lv_at hl 3 rfl) ?_
  refine szWX_Mesh_y hc hP hS h1 dX4_put_13 (fun H locs hP hS => ?_)
  obtain ⟨S3, eS3⟩ : ∃ z, z = ua S2 2 (v1).toNat v3 := ⟨_, rfl⟩
  replace h := olet_at eS3 h
  rw [← eS3] at hP
  refine lv_aload_n hx hb dX4_put_14 rfl (lv_at hl 0 rfl) ?_
  refine gfWX_Mesh_z hc hP q_49 dX4_put_15 ?_
  refine lv_iload_n hx hb dX4_put_18 rfl (lv_at hl 1 rfl) ?_
  refine lv_iload hx hb dX4_put_19 (lv_at hl 4 rfl) ?_
  refine szWX_Mesh_z hc hP hS h1 dX4_put_21 (fun H locs hP hS => ?_)
  obtain ⟨S4, eS4⟩ : ∃ z, z = ua S3 3 (v1).toNat v4 := ⟨_, rfl⟩
  replace h := olet_at eS4 h
  rw [← eS4] at hP
  obtain rfl := Option.some.inj h
  exact hr _ _ _ _ dX4_put_22 hP hS
abbrev rm_X4_put : Room := { frames := 0, cells := 0, slots := 0, locals := 0 }
theorem c_X4_put {l : Launch} {D : va_G} {a : Nat → Nat} {g : Nat → ClassId} {S : SZ} {v1 : Int} {v2 : Int} {v3 : Int} {v4 : Int} {z : SZ} (h : f_X4_put S v1 v2 v3 v4 = some z) : MetV l D (tysWX g) (WX a g) E0 yX4_put cX4_put 5 none rm_X4_put [.ref (a 1), .int (Int32.ofInt v1), .int (Int32.ofInt v2), .int (Int32.ofInt v3), .int (Int32.ofInt v4)] (em S) (em z) := mk_v (WX_same a g) (by decide) (em z) (Nat.le_of_ble_eq_true rfl) (fun p e s m args below meth c A Q hc hE hr => t_X4_put (z := z) hc hr S v1 v2 v3 v4 h)
theorem k_X4_put : CalV RX4 yX4_put cX4_put 5 none rm_X4_put 4 := ⟨q_147, q_148, q_14, q_149, by decide +kernel, rfl, rfl⟩
set_option maxHeartbeats 4000000 in
set_option maxRecDepth 100000 in
theorem t_X4_addPoint {z : SZ × Int} (hc : Cx p R s m args c D (tysWX g) A (WX a g) cX4_addPoint 4 RX4 1 24) (hr : Rti p l e R s m args below meth c Q D A (WX a g) cX4_addPoint (em z.1, Int32.ofInt z.2)) : ∀ (S : SZ) (v1 : Int) (v2 : Int) (v3 : Int), f_X4_addPoint S v1 v2 v3 = some z → Go p l e R s m args below meth c Q D A (WX a g) 4 (em S) 0 [(0, .ref (a 1)), (1, .int (Int32.ofInt v1)), (2, .int (Int32.ofInt v2)), (3, .int (Int32.ofInt v3))] [] := by
  obtain ⟨⟨hx, hb, hml, hown, hts⟩, -, -, -, hnf, hno⟩ := id hc
  intro S v1 v2 v3 h H locs ls hP hS hl
  rw [f_X4_addPoint] at h
  replace hl : lv_has ls 4 [(0, .ref (a 1)), (1, .int (Int32.ofInt v1)), (2, .int (Int32.ofInt v2)), (3, .int (Int32.ofInt v3))] := hl
  refine lv_aload_n hx hb dX4_addPoint_0 rfl (lv_at hl 0 rfl) ?_
  refine lv_aload_n hx hb dX4_addPoint_1 rfl (lv_at hl 0 rfl) ?_
  refine gzWX_Mesh_points hc hP q_137 dX4_addPoint_2 ?_
  refine lv_iload_n hx hb dX4_addPoint_5 rfl (lv_at hl 1 rfl) ?_
  refine lv_iload_n hx hb dX4_addPoint_6 rfl (lv_at hl 2 rfl) ?_
  refine lv_iload_n hx hb dX4_addPoint_7 rfl (lv_at hl 3 rfl) ?_
  obtain ⟨S1, hk2, h⟩ := ob1_at h
  refine cl_Vv (As := [.int (Int32.ofInt (zi S 2)), .int (Int32.ofInt v1), .int (Int32.ofInt v2), .int (Int32.ofInt v3)]) (rest := []) hc k_X4_put q_146 (c_X4_put hk2) hP hS (WX_1 a g (em S)) rfl rfl rfl hl (Nat.le_of_ble_eq_true rfl) dX4_addPoint_8 (Nat.le_of_ble_eq_true rfl) (Nat.le_of_ble_eq_true rfl) rfl (fun H locs hP hS => ?_)
  refine lv_aload_n hx hb dX4_addPoint_11 rfl (lv_at hl 0 rfl) ?_
  refine lv_dup hx hb dX4_addPoint_12 rfl ?_
  refine gzWX_Mesh_points hc hP q_137 dX4_addPoint_13 ?_
  refine lv_iconst (v := Int32.ofInt (1 : Int)) hx hb dX4_addPoint_16 (by decide) ?_
  refine z_iadd hx hb dX4_addPoint_17 ?_
  refine pzWX_Mesh_points hc hP hS q_137 dX4_addPoint_18 (fun H locs hP hS => ?_)
  obtain ⟨S3, eS3⟩ : ∃ z, z = ui S1 2 ((zi S1 2) + (1 : Int)) := ⟨_, rfl⟩
  replace h := olet_at eS3 h
  rw [← eS3] at hP
  refine lv_aload_n hx hb dX4_addPoint_21 rfl (lv_at hl 0 rfl) ?_
  refine gzWX_Mesh_points hc hP q_137 dX4_addPoint_22 ?_
  refine lv_iconst (v := Int32.ofInt (1 : Int)) hx hb dX4_addPoint_25 (by decide) ?_
  refine z_isub hx hb dX4_addPoint_26 ?_
  obtain rfl := Option.some.inj h
  exact hr _ _ _ _ dX4_addPoint_27 hP hS
abbrev rm_X4_addPoint : Room := { frames := 1, cells := 0, slots := 0, locals := 24 }
theorem c_X4_addPoint {l : Launch} {D : va_G} {a : Nat → Nat} {g : Nat → ClassId} {S : SZ} {v1 : Int} {v2 : Int} {v3 : Int} {Z1 : SZ} {r1 : Int} (h : f_X4_addPoint S v1 v2 v3 = some (Z1, r1)) : MetI l D (tysWX g) (WX a g) E0 yX4_addPoint cX4_addPoint 4 (some .int) rm_X4_addPoint [.ref (a 1), .int (Int32.ofInt v1), .int (Int32.ofInt v2), .int (Int32.ofInt v3)] (em S) (em Z1, Int32.ofInt r1) := mk_i (WX_same a g) (by decide) (em Z1, Int32.ofInt r1) (Nat.le_of_ble_eq_true rfl) (fun p e s m args below meth c A Q hc hE hr => t_X4_addPoint (z := (Z1, r1)) hc hr S v1 v2 v3 h)
theorem k_X4_addPoint : CalV RX4 yX4_addPoint cX4_addPoint 4 (some .int) rm_X4_addPoint 3 := ⟨q_143, q_144, q_14, q_145, by decide +kernel, rfl, rfl⟩
set_option maxHeartbeats 4000000 in
set_option maxRecDepth 100000 in
theorem t_X4_hasPoint {z : SZ × Int} (hc : Cx p R s m args c D (tysWX g) A (WX a g) cX4_hasPoint 2 RX4 0 0) (hr : Rtz p l e R s m args below meth c Q D A (WX a g) cX4_hasPoint (em z.1, Int32.ofInt z.2)) : ∀ (S : SZ) (v1 : Int), f_X4_hasPoint S v1 = some z → Go p l e R s m args below meth c Q D A (WX a g) 2 (em S) 0 [(0, .ref (a 1)), (1, .int (Int32.ofInt v1))] [] := by
  obtain ⟨⟨hx, hb, hml, hown, hts⟩, -, -, -, hnf, hno⟩ := id hc
  intro S v1 h H locs ls hP hS hl
  rw [f_X4_hasPoint] at h
  replace hl : lv_has ls 2 [(0, .ref (a 1)), (1, .int (Int32.ofInt v1))] := hl
  refine lv_iload_n hx hb dX4_hasPoint_0 rfl (lv_at hl 1 rfl) ?_
  obtain ⟨h1, h⟩ := chk_at h
  refine z_if_lt (tgt := 16) hx hb h1 dX4_hasPoint_1 (by decide) (fun hq => ?_) (fun hq => ?_)
  · replace h := if_yes hq h
    refine lv_iconst (v := Int32.ofInt (0 : Int)) hx hb dX4_hasPoint_16 (by decide) ?_
    obtain rfl := Option.some.inj h
    exact hr (bit_of (Or.inl rfl)) _ _ _ _ dX4_hasPoint_17 hP hS
  · replace h := if_no hq h
    refine lv_iload_n hx hb dX4_hasPoint_4 rfl (lv_at hl 1 rfl) ?_
    refine lv_aload_n hx hb dX4_hasPoint_5 rfl (lv_at hl 0 rfl) ?_
    refine gzWX_Mesh_points hc hP q_137 dX4_hasPoint_6 ?_
    obtain ⟨h2, h⟩ := chk_at h
    refine z_icmp_ge (tgt := 16) hx hb h1 h2 dX4_hasPoint_9 (by decide) (fun hq => ?_) (fun hq => ?_)
    · replace h := if_yes hq h
      refine lv_iconst (v := Int32.ofInt (0 : Int)) hx hb dX4_hasPoint_16 (by decide) ?_
      obtain rfl := Option.some.inj h
      exact hr (bit_of (Or.inl rfl)) _ _ _ _ dX4_hasPoint_17 hP hS
    · replace h := if_no hq h
      refine lv_iconst (v := Int32.ofInt (1 : Int)) hx hb dX4_hasPoint_12 (by decide) ?_
      refine lv_goto (tgt := 17) hx hb dX4_hasPoint_13 (by decide) ?_
      obtain rfl := Option.some.inj h
      exact hr (bit_of (Or.inr rfl)) _ _ _ _ dX4_hasPoint_17 hP hS
abbrev rm_X4_hasPoint : Room := { frames := 0, cells := 0, slots := 0, locals := 0 }
theorem c_X4_hasPoint {l : Launch} {D : va_G} {a : Nat → Nat} {g : Nat → ClassId} {S : SZ} {v1 : Int} {Z1 : SZ} {r1 : Int} (h : f_X4_hasPoint S v1 = some (Z1, r1)) : MetI l D (tysWX g) (WX a g) E0 yX4_hasPoint cX4_hasPoint 2 (some .boolean) rm_X4_hasPoint [.ref (a 1), .int (Int32.ofInt v1)] (em S) (em Z1, Int32.ofInt r1) := mk_z (WX_same a g) (by decide) (em Z1, Int32.ofInt r1) (Nat.le_of_ble_eq_true rfl) (fun p e s m args below meth c A Q hc hE hr => t_X4_hasPoint (z := (Z1, r1)) hc hr S v1 h)
theorem k_X4_hasPoint : CalV RX4 yX4_hasPoint cX4_hasPoint 2 (some .boolean) rm_X4_hasPoint 1 := ⟨q_176, q_177, q_14, q_178, by decide +kernel, rfl, rfl⟩
set_option maxHeartbeats 4000000 in
set_option maxRecDepth 100000 in
theorem t_X4_area_y_z {z : SZ × Int} (hc : Cx p R s m args c D (tysWX g) A (WX a g) cX4_area 5 RX4 0 0) (hr : Rti p l e R s m args below meth c Q D A (WX a g) cX4_area (em z.1, Int32.ofInt z.2)) : ∀ (S : SZ) (v2 : Int) (v3 : Int) (v4 : Int), f_X4_area_y_z S v2 v3 v4 = some z → Go p l e R s m args below meth c Q D A (WX a g) 5 (em S) 0 [(0, .ref (a 10)), (1, .ref (a 11)), (2, .int (Int32.ofInt v2)), (3, .int (Int32.ofInt v3)), (4, .int (Int32.ofInt v4))] [] := by
  obtain ⟨⟨hx, hb, hml, hown, hts⟩, -, -, -, hnf, hno⟩ := id hc
  intro S v2 v3 v4 h H locs ls hP hS hl
  rw [f_X4_area_y_z] at h
  replace hl : lv_has ls 5 [(0, .ref (a 10)), (1, .ref (a 11)), (2, .int (Int32.ofInt v2)), (3, .int (Int32.ofInt v3)), (4, .int (Int32.ofInt v4))] := hl
  refine lv_aload_n hx hb dX4_area_0 rfl (lv_at hl 0 rfl) ?_
  refine lv_iload_n hx hb dX4_area_1 rfl (lv_at hl 3 rfl) ?_
  obtain ⟨h1, h⟩ := chk_at h
  refine azWX_Mesh_y hc hP h1 dX4_area_2 ?_
  refine lv_aload_n hx hb dX4_area_3 rfl (lv_at hl 0 rfl) ?_
  refine lv_iload_n hx hb dX4_area_4 rfl (lv_at hl 2 rfl) ?_
  obtain ⟨h2, h⟩ := chk_at h
  refine azWX_Mesh_y hc hP h2 dX4_area_5 ?_
  refine z_isub hx hb dX4_area_6 ?_
  refine lv_aload_n hx hb dX4_area_7 rfl (lv_at hl 1 rfl) ?_
  refine lv_iload hx hb dX4_area_8 (lv_at hl 4 rfl) ?_
  obtain ⟨h3, h⟩ := chk_at h
  refine azWX_Mesh_z hc hP h3 dX4_area_10 ?_
  refine lv_aload_n hx hb dX4_area_11 rfl (lv_at hl 1 rfl) ?_
  refine lv_iload_n hx hb dX4_area_12 rfl (lv_at hl 2 rfl) ?_
  refine azWX_Mesh_z hc hP h2 dX4_area_13 ?_
  refine z_isub hx hb dX4_area_14 ?_
  refine z_imul hx hb dX4_area_15 ?_
  refine lv_aload_n hx hb dX4_area_16 rfl (lv_at hl 1 rfl) ?_
  refine lv_iload_n hx hb dX4_area_17 rfl (lv_at hl 3 rfl) ?_
  refine azWX_Mesh_z hc hP h1 dX4_area_18 ?_
  refine lv_aload_n hx hb dX4_area_19 rfl (lv_at hl 1 rfl) ?_
  refine lv_iload_n hx hb dX4_area_20 rfl (lv_at hl 2 rfl) ?_
  refine azWX_Mesh_z hc hP h2 dX4_area_21 ?_
  refine z_isub hx hb dX4_area_22 ?_
  refine lv_aload_n hx hb dX4_area_23 rfl (lv_at hl 0 rfl) ?_
  refine lv_iload hx hb dX4_area_24 (lv_at hl 4 rfl) ?_
  refine azWX_Mesh_y hc hP h3 dX4_area_26 ?_
  refine lv_aload_n hx hb dX4_area_27 rfl (lv_at hl 0 rfl) ?_
  refine lv_iload_n hx hb dX4_area_28 rfl (lv_at hl 2 rfl) ?_
  refine azWX_Mesh_y hc hP h2 dX4_area_29 ?_
  refine z_isub hx hb dX4_area_30 ?_
  refine z_imul hx hb dX4_area_31 ?_
  refine z_isub hx hb dX4_area_32 ?_
  obtain rfl := Option.some.inj h
  exact hr _ _ _ _ dX4_area_33 hP hS
abbrev rm_X4_area_y_z : Room := { frames := 0, cells := 0, slots := 0, locals := 0 }
theorem c_X4_area_y_z {l : Launch} {D : va_G} {a : Nat → Nat} {g : Nat → ClassId} {S : SZ} {v2 : Int} {v3 : Int} {v4 : Int} {Z1 : SZ} {r1 : Int} (h : f_X4_area_y_z S v2 v3 v4 = some (Z1, r1)) : MetI l D (tysWX g) (WX a g) E0 yX4_area cX4_area 5 (some .int) rm_X4_area_y_z [.ref (a 10), .ref (a 11), .int (Int32.ofInt v2), .int (Int32.ofInt v3), .int (Int32.ofInt v4)] (em S) (em Z1, Int32.ofInt r1) := mk_i (WX_same a g) (by decide) (em Z1, Int32.ofInt r1) (Nat.le_of_ble_eq_true rfl) (fun p e s m args below meth c A Q hc hE hr => t_X4_area_y_z (z := (Z1, r1)) hc hr S v2 v3 v4 h)
theorem k_X4_area_y_z : CalS yX4_area cX4_area 5 (some .int) rm_X4_area_y_z 5 := ⟨q_184, q_14, q_185, by decide +kernel, rfl, rfl⟩
set_option maxHeartbeats 4000000 in
set_option maxRecDepth 100000 in
theorem t_X4_area_z_x {z : SZ × Int} (hc : Cx p R s m args c D (tysWX g) A (WX a g) cX4_area 5 RX4 0 0) (hr : Rti p l e R s m args below meth c Q D A (WX a g) cX4_area (em z.1, Int32.ofInt z.2)) : ∀ (S : SZ) (v2 : Int) (v3 : Int) (v4 : Int), f_X4_area_z_x S v2 v3 v4 = some z → Go p l e R s m args below meth c Q D A (WX a g) 5 (em S) 0 [(0, .ref (a 11)), (1, .ref (a 9)), (2, .int (Int32.ofInt v2)), (3, .int (Int32.ofInt v3)), (4, .int (Int32.ofInt v4))] [] := by
  obtain ⟨⟨hx, hb, hml, hown, hts⟩, -, -, -, hnf, hno⟩ := id hc
  intro S v2 v3 v4 h H locs ls hP hS hl
  rw [f_X4_area_z_x] at h
  replace hl : lv_has ls 5 [(0, .ref (a 11)), (1, .ref (a 9)), (2, .int (Int32.ofInt v2)), (3, .int (Int32.ofInt v3)), (4, .int (Int32.ofInt v4))] := hl
  refine lv_aload_n hx hb dX4_area_0 rfl (lv_at hl 0 rfl) ?_
  refine lv_iload_n hx hb dX4_area_1 rfl (lv_at hl 3 rfl) ?_
  obtain ⟨h1, h⟩ := chk_at h
  refine azWX_Mesh_z hc hP h1 dX4_area_2 ?_
  refine lv_aload_n hx hb dX4_area_3 rfl (lv_at hl 0 rfl) ?_
  refine lv_iload_n hx hb dX4_area_4 rfl (lv_at hl 2 rfl) ?_
  obtain ⟨h2, h⟩ := chk_at h
  refine azWX_Mesh_z hc hP h2 dX4_area_5 ?_
  refine z_isub hx hb dX4_area_6 ?_
  refine lv_aload_n hx hb dX4_area_7 rfl (lv_at hl 1 rfl) ?_
  refine lv_iload hx hb dX4_area_8 (lv_at hl 4 rfl) ?_
  obtain ⟨h3, h⟩ := chk_at h
  refine azWX_Mesh_x hc hP h3 dX4_area_10 ?_
  refine lv_aload_n hx hb dX4_area_11 rfl (lv_at hl 1 rfl) ?_
  refine lv_iload_n hx hb dX4_area_12 rfl (lv_at hl 2 rfl) ?_
  refine azWX_Mesh_x hc hP h2 dX4_area_13 ?_
  refine z_isub hx hb dX4_area_14 ?_
  refine z_imul hx hb dX4_area_15 ?_
  refine lv_aload_n hx hb dX4_area_16 rfl (lv_at hl 1 rfl) ?_
  refine lv_iload_n hx hb dX4_area_17 rfl (lv_at hl 3 rfl) ?_
  refine azWX_Mesh_x hc hP h1 dX4_area_18 ?_
  refine lv_aload_n hx hb dX4_area_19 rfl (lv_at hl 1 rfl) ?_
  refine lv_iload_n hx hb dX4_area_20 rfl (lv_at hl 2 rfl) ?_
  refine azWX_Mesh_x hc hP h2 dX4_area_21 ?_
  refine z_isub hx hb dX4_area_22 ?_
  refine lv_aload_n hx hb dX4_area_23 rfl (lv_at hl 0 rfl) ?_
  refine lv_iload hx hb dX4_area_24 (lv_at hl 4 rfl) ?_
  refine azWX_Mesh_z hc hP h3 dX4_area_26 ?_
  refine lv_aload_n hx hb dX4_area_27 rfl (lv_at hl 0 rfl) ?_
  refine lv_iload_n hx hb dX4_area_28 rfl (lv_at hl 2 rfl) ?_
  refine azWX_Mesh_z hc hP h2 dX4_area_29 ?_
  refine z_isub hx hb dX4_area_30 ?_
  refine z_imul hx hb dX4_area_31 ?_
  refine z_isub hx hb dX4_area_32 ?_
  obtain rfl := Option.some.inj h
  exact hr _ _ _ _ dX4_area_33 hP hS
abbrev rm_X4_area_z_x : Room := { frames := 0, cells := 0, slots := 0, locals := 0 }
theorem c_X4_area_z_x {l : Launch} {D : va_G} {a : Nat → Nat} {g : Nat → ClassId} {S : SZ} {v2 : Int} {v3 : Int} {v4 : Int} {Z1 : SZ} {r1 : Int} (h : f_X4_area_z_x S v2 v3 v4 = some (Z1, r1)) : MetI l D (tysWX g) (WX a g) E0 yX4_area cX4_area 5 (some .int) rm_X4_area_z_x [.ref (a 11), .ref (a 9), .int (Int32.ofInt v2), .int (Int32.ofInt v3), .int (Int32.ofInt v4)] (em S) (em Z1, Int32.ofInt r1) := mk_i (WX_same a g) (by decide) (em Z1, Int32.ofInt r1) (Nat.le_of_ble_eq_true rfl) (fun p e s m args below meth c A Q hc hE hr => t_X4_area_z_x (z := (Z1, r1)) hc hr S v2 v3 v4 h)
theorem k_X4_area_z_x : CalS yX4_area cX4_area 5 (some .int) rm_X4_area_z_x 5 := ⟨q_184, q_14, q_185, by decide +kernel, rfl, rfl⟩
set_option maxHeartbeats 4000000 in
set_option maxRecDepth 100000 in
theorem t_X4_area_x_y {z : SZ × Int} (hc : Cx p R s m args c D (tysWX g) A (WX a g) cX4_area 5 RX4 0 0) (hr : Rti p l e R s m args below meth c Q D A (WX a g) cX4_area (em z.1, Int32.ofInt z.2)) : ∀ (S : SZ) (v2 : Int) (v3 : Int) (v4 : Int), f_X4_area_x_y S v2 v3 v4 = some z → Go p l e R s m args below meth c Q D A (WX a g) 5 (em S) 0 [(0, .ref (a 9)), (1, .ref (a 10)), (2, .int (Int32.ofInt v2)), (3, .int (Int32.ofInt v3)), (4, .int (Int32.ofInt v4))] [] := by
  obtain ⟨⟨hx, hb, hml, hown, hts⟩, -, -, -, hnf, hno⟩ := id hc
  intro S v2 v3 v4 h H locs ls hP hS hl
  rw [f_X4_area_x_y] at h
  replace hl : lv_has ls 5 [(0, .ref (a 9)), (1, .ref (a 10)), (2, .int (Int32.ofInt v2)), (3, .int (Int32.ofInt v3)), (4, .int (Int32.ofInt v4))] := hl
  refine lv_aload_n hx hb dX4_area_0 rfl (lv_at hl 0 rfl) ?_
  refine lv_iload_n hx hb dX4_area_1 rfl (lv_at hl 3 rfl) ?_
  obtain ⟨h1, h⟩ := chk_at h
  refine azWX_Mesh_x hc hP h1 dX4_area_2 ?_
  refine lv_aload_n hx hb dX4_area_3 rfl (lv_at hl 0 rfl) ?_
  refine lv_iload_n hx hb dX4_area_4 rfl (lv_at hl 2 rfl) ?_
  obtain ⟨h2, h⟩ := chk_at h
  refine azWX_Mesh_x hc hP h2 dX4_area_5 ?_
  refine z_isub hx hb dX4_area_6 ?_
  refine lv_aload_n hx hb dX4_area_7 rfl (lv_at hl 1 rfl) ?_
  refine lv_iload hx hb dX4_area_8 (lv_at hl 4 rfl) ?_
  obtain ⟨h3, h⟩ := chk_at h
  refine azWX_Mesh_y hc hP h3 dX4_area_10 ?_
  refine lv_aload_n hx hb dX4_area_11 rfl (lv_at hl 1 rfl) ?_
  refine lv_iload_n hx hb dX4_area_12 rfl (lv_at hl 2 rfl) ?_
  refine azWX_Mesh_y hc hP h2 dX4_area_13 ?_
  refine z_isub hx hb dX4_area_14 ?_
  refine z_imul hx hb dX4_area_15 ?_
  refine lv_aload_n hx hb dX4_area_16 rfl (lv_at hl 1 rfl) ?_
  refine lv_iload_n hx hb dX4_area_17 rfl (lv_at hl 3 rfl) ?_
  refine azWX_Mesh_y hc hP h1 dX4_area_18 ?_
  refine lv_aload_n hx hb dX4_area_19 rfl (lv_at hl 1 rfl) ?_
  refine lv_iload_n hx hb dX4_area_20 rfl (lv_at hl 2 rfl) ?_
  refine azWX_Mesh_y hc hP h2 dX4_area_21 ?_
  refine z_isub hx hb dX4_area_22 ?_
  refine lv_aload_n hx hb dX4_area_23 rfl (lv_at hl 0 rfl) ?_
  refine lv_iload hx hb dX4_area_24 (lv_at hl 4 rfl) ?_
  refine azWX_Mesh_x hc hP h3 dX4_area_26 ?_
  refine lv_aload_n hx hb dX4_area_27 rfl (lv_at hl 0 rfl) ?_
  refine lv_iload_n hx hb dX4_area_28 rfl (lv_at hl 2 rfl) ?_
  refine azWX_Mesh_x hc hP h2 dX4_area_29 ?_
  refine z_isub hx hb dX4_area_30 ?_
  refine z_imul hx hb dX4_area_31 ?_
  refine z_isub hx hb dX4_area_32 ?_
  obtain rfl := Option.some.inj h
  exact hr _ _ _ _ dX4_area_33 hP hS
abbrev rm_X4_area_x_y : Room := { frames := 0, cells := 0, slots := 0, locals := 0 }
theorem c_X4_area_x_y {l : Launch} {D : va_G} {a : Nat → Nat} {g : Nat → ClassId} {S : SZ} {v2 : Int} {v3 : Int} {v4 : Int} {Z1 : SZ} {r1 : Int} (h : f_X4_area_x_y S v2 v3 v4 = some (Z1, r1)) : MetI l D (tysWX g) (WX a g) E0 yX4_area cX4_area 5 (some .int) rm_X4_area_x_y [.ref (a 9), .ref (a 10), .int (Int32.ofInt v2), .int (Int32.ofInt v3), .int (Int32.ofInt v4)] (em S) (em Z1, Int32.ofInt r1) := mk_i (WX_same a g) (by decide) (em Z1, Int32.ofInt r1) (Nat.le_of_ble_eq_true rfl) (fun p e s m args below meth c A Q hc hE hr => t_X4_area_x_y (z := (Z1, r1)) hc hr S v2 v3 v4 h)
theorem k_X4_area_x_y : CalS yX4_area cX4_area 5 (some .int) rm_X4_area_x_y 5 := ⟨q_184, q_14, q_185, by decide +kernel, rfl, rfl⟩
set_option maxHeartbeats 4000000 in
set_option maxRecDepth 100000 in
theorem t_X4_onLine {z : SZ × Int} (hc : Cx p R s m args c D (tysWX g) A (WX a g) cX4_onLine 4 RX4 1 24) (hr : Rtz p l e R s m args below meth c Q D A (WX a g) cX4_onLine (em z.1, Int32.ofInt z.2)) : ∀ (S : SZ) (v1 : Int) (v2 : Int) (v3 : Int), f_X4_onLine S v1 v2 v3 = some z → Go p l e R s m args below meth c Q D A (WX a g) 4 (em S) 0 [(0, .ref (a 1)), (1, .int (Int32.ofInt v1)), (2, .int (Int32.ofInt v2)), (3, .int (Int32.ofInt v3))] [] := by
  obtain ⟨⟨hx, hb, hml, hown, hts⟩, -, -, -, hnf, hno⟩ := id hc
  intro S v1 v2 v3 h H locs ls hP hS hl
  rw [f_X4_onLine] at h
  replace hl : lv_has ls 4 [(0, .ref (a 1)), (1, .int (Int32.ofInt v1)), (2, .int (Int32.ofInt v2)), (3, .int (Int32.ofInt v3))] := hl
  refine lv_aload_n hx hb dX4_onLine_0 rfl (lv_at hl 0 rfl) ?_
  refine gfWX_Mesh_y hc hP q_48 dX4_onLine_1 ?_
  refine lv_aload_n hx hb dX4_onLine_4 rfl (lv_at hl 0 rfl) ?_
  refine gfWX_Mesh_z hc hP q_49 dX4_onLine_5 ?_
  refine lv_iload_n hx hb dX4_onLine_8 rfl (lv_at hl 1 rfl) ?_
  refine lv_iload_n hx hb dX4_onLine_9 rfl (lv_at hl 2 rfl) ?_
  refine lv_iload_n hx hb dX4_onLine_10 rfl (lv_at hl 3 rfl) ?_
  obtain ⟨S1, x3, hk2, h⟩ := ob2_at h
  refine cl_Si (As := [.ref (a 10), .ref (a 11), .int (Int32.ofInt v1), .int (Int32.ofInt v2), .int (Int32.ofInt v3)]) (rest := []) hc k_X4_area_y_z q_183 (c_X4_area_y_z hk2) hP hS rfl hl (Nat.le_of_ble_eq_true rfl) dX4_onLine_11 (Nat.le_of_ble_eq_true rfl) (Nat.le_of_ble_eq_true rfl) rfl (fun H locs hP hS => ?_)
  obtain ⟨h4, h⟩ := chk_at h
  refine z_if_ne (tgt := 55) hx hb h4 dX4_onLine_14 (by decide) (fun hq => ?_) (fun hq => ?_)
  · replace h := if_no hq h
    refine lv_iconst (v := Int32.ofInt (0 : Int)) hx hb dX4_onLine_55 (by decide) ?_
    obtain rfl := Option.some.inj h
    exact hr (bit_of (Or.inl rfl)) _ _ _ _ dX4_onLine_56 hP hS
  · replace h := if_yes hq h
    refine lv_aload_n hx hb dX4_onLine_17 rfl (lv_at hl 0 rfl) ?_
    refine gfWX_Mesh_z hc hP q_49 dX4_onLine_18 ?_
    refine lv_aload_n hx hb dX4_onLine_21 rfl (lv_at hl 0 rfl) ?_
    refine gfWX_Mesh_x hc hP q_47 dX4_onLine_22 ?_
    refine lv_iload_n hx hb dX4_onLine_25 rfl (lv_at hl 1 rfl) ?_
    refine lv_iload_n hx hb dX4_onLine_26 rfl (lv_at hl 2 rfl) ?_
    refine lv_iload_n hx hb dX4_onLine_27 rfl (lv_at hl 3 rfl) ?_
    obtain ⟨S5, x7, hk6, h⟩ := ob2_at h
    refine cl_Si (As := [.ref (a 11), .ref (a 9), .int (Int32.ofInt v1), .int (Int32.ofInt v2), .int (Int32.ofInt v3)]) (rest := []) hc k_X4_area_z_x q_183 (c_X4_area_z_x hk6) hP hS rfl hl (Nat.le_of_ble_eq_true rfl) dX4_onLine_28 (Nat.le_of_ble_eq_true rfl) (Nat.le_of_ble_eq_true rfl) rfl (fun H locs hP hS => ?_)
    obtain ⟨h8, h⟩ := chk_at h
    refine z_if_ne (tgt := 55) hx hb h8 dX4_onLine_31 (by decide) (fun hq => ?_) (fun hq => ?_)
    · replace h := if_no hq h
      refine lv_iconst (v := Int32.ofInt (0 : Int)) hx hb dX4_onLine_55 (by decide) ?_
      obtain rfl := Option.some.inj h
      exact hr (bit_of (Or.inl rfl)) _ _ _ _ dX4_onLine_56 hP hS
    · replace h := if_yes hq h
      refine lv_aload_n hx hb dX4_onLine_34 rfl (lv_at hl 0 rfl) ?_
      refine gfWX_Mesh_x hc hP q_47 dX4_onLine_35 ?_
      refine lv_aload_n hx hb dX4_onLine_38 rfl (lv_at hl 0 rfl) ?_
      refine gfWX_Mesh_y hc hP q_48 dX4_onLine_39 ?_
      refine lv_iload_n hx hb dX4_onLine_42 rfl (lv_at hl 1 rfl) ?_
      refine lv_iload_n hx hb dX4_onLine_43 rfl (lv_at hl 2 rfl) ?_
      refine lv_iload_n hx hb dX4_onLine_44 rfl (lv_at hl 3 rfl) ?_
      obtain ⟨S9, x11, hk10, h⟩ := ob2_at h
      refine cl_Si (As := [.ref (a 9), .ref (a 10), .int (Int32.ofInt v1), .int (Int32.ofInt v2), .int (Int32.ofInt v3)]) (rest := []) hc k_X4_area_x_y q_183 (c_X4_area_x_y hk10) hP hS rfl hl (Nat.le_of_ble_eq_true rfl) dX4_onLine_45 (Nat.le_of_ble_eq_true rfl) (Nat.le_of_ble_eq_true rfl) rfl (fun H locs hP hS => ?_)
      obtain ⟨h12, h⟩ := chk_at h
      refine z_if_ne (tgt := 55) hx hb h12 dX4_onLine_48 (by decide) (fun hq => ?_) (fun hq => ?_)
      · replace h := if_no hq h
        refine lv_iconst (v := Int32.ofInt (0 : Int)) hx hb dX4_onLine_55 (by decide) ?_
        obtain rfl := Option.some.inj h
        exact hr (bit_of (Or.inl rfl)) _ _ _ _ dX4_onLine_56 hP hS
      · replace h := if_yes hq h
        refine lv_iconst (v := Int32.ofInt (1 : Int)) hx hb dX4_onLine_51 (by decide) ?_
        refine lv_goto (tgt := 56) hx hb dX4_onLine_52 (by decide) ?_
        obtain rfl := Option.some.inj h
        exact hr (bit_of (Or.inr rfl)) _ _ _ _ dX4_onLine_56 hP hS
abbrev rm_X4_onLine : Room := { frames := 1, cells := 0, slots := 0, locals := 24 }
theorem c_X4_onLine {l : Launch} {D : va_G} {a : Nat → Nat} {g : Nat → ClassId} {S : SZ} {v1 : Int} {v2 : Int} {v3 : Int} {Z1 : SZ} {r1 : Int} (h : f_X4_onLine S v1 v2 v3 = some (Z1, r1)) : MetI l D (tysWX g) (WX a g) E0 yX4_onLine cX4_onLine 4 (some .boolean) rm_X4_onLine [.ref (a 1), .int (Int32.ofInt v1), .int (Int32.ofInt v2), .int (Int32.ofInt v3)] (em S) (em Z1, Int32.ofInt r1) := mk_z (WX_same a g) (by decide) (em Z1, Int32.ofInt r1) (Nat.le_of_ble_eq_true rfl) (fun p e s m args below meth c A Q hc hE hr => t_X4_onLine (z := (Z1, r1)) hc hr S v1 v2 v3 h)
theorem k_X4_onLine : CalV RX4 yX4_onLine cX4_onLine 4 (some .boolean) rm_X4_onLine 3 := ⟨q_180, q_181, q_14, q_182, by decide +kernel, rfl, rfl⟩
set_option maxHeartbeats 4000000 in
set_option maxRecDepth 100000 in
theorem t_X4_cornerOf {z : SZ × Int} (hc : Cx p R s m args c D (tysWX g) A (WX a g) cX4_cornerOf 3 RX4 0 0) (hr : Rti p l e R s m args below meth c Q D A (WX a g) cX4_cornerOf (em z.1, Int32.ofInt z.2)) : ∀ (S : SZ) (v1 : Int) (v2 : Int), f_X4_cornerOf S v1 v2 = some z → Go p l e R s m args below meth c Q D A (WX a g) 3 (em S) 0 [(0, .ref (a 1)), (1, .int (Int32.ofInt v1)), (2, .int (Int32.ofInt v2))] [] := by
  obtain ⟨⟨hx, hb, hml, hown, hts⟩, -, -, -, hnf, hno⟩ := id hc
  intro S v1 v2 h H locs ls hP hS hl
  rw [f_X4_cornerOf] at h
  replace hl : lv_has ls 3 [(0, .ref (a 1)), (1, .int (Int32.ofInt v1)), (2, .int (Int32.ofInt v2))] := hl
  refine lv_aload_n hx hb dX4_cornerOf_0 rfl (lv_at hl 0 rfl) ?_
  refine gfWX_Mesh_corners hc hP q_50 dX4_cornerOf_1 ?_
  refine lv_iconst (v := Int32.ofInt (3 : Int)) hx hb dX4_cornerOf_4 (by decide) ?_
  refine lv_iload_n hx hb dX4_cornerOf_5 rfl (lv_at hl 1 rfl) ?_
  refine z_imul hx hb dX4_cornerOf_6 ?_
  refine lv_iload_n hx hb dX4_cornerOf_7 rfl (lv_at hl 2 rfl) ?_
  refine z_iadd hx hb dX4_cornerOf_8 ?_
  obtain ⟨h1, h⟩ := chk_at h
  refine azWX_Mesh_corners hc hP h1 dX4_cornerOf_9 ?_
  obtain rfl := Option.some.inj h
  exact hr _ _ _ _ dX4_cornerOf_10 hP hS
abbrev rm_X4_cornerOf : Room := { frames := 0, cells := 0, slots := 0, locals := 0 }
theorem c_X4_cornerOf {l : Launch} {D : va_G} {a : Nat → Nat} {g : Nat → ClassId} {S : SZ} {v1 : Int} {v2 : Int} {Z1 : SZ} {r1 : Int} (h : f_X4_cornerOf S v1 v2 = some (Z1, r1)) : MetI l D (tysWX g) (WX a g) E0 yX4_cornerOf cX4_cornerOf 3 (some .int) rm_X4_cornerOf [.ref (a 1), .int (Int32.ofInt v1), .int (Int32.ofInt v2)] (em S) (em Z1, Int32.ofInt r1) := mk_i (WX_same a g) (by decide) (em Z1, Int32.ofInt r1) (Nat.le_of_ble_eq_true rfl) (fun p e s m args below meth c A Q hc hE hr => t_X4_cornerOf (z := (Z1, r1)) hc hr S v1 v2 h)
theorem k_X4_cornerOf : CalV RX4 yX4_cornerOf cX4_cornerOf 3 (some .int) rm_X4_cornerOf 2 := ⟨q_196, q_197, q_14, q_198, by decide +kernel, rfl, rfl⟩
set_option maxHeartbeats 4000000 in
set_option maxRecDepth 100000 in
theorem t_X4_hasCorner {z : SZ × Int} (hc : Cx p R s m args c D (tysWX g) A (WX a g) cX4_hasCorner 3 RX4 1 22) (hr : Rtz p l e R s m args below meth c Q D A (WX a g) cX4_hasCorner (em z.1, Int32.ofInt z.2)) : ∀ (S : SZ) (v1 : Int) (v2 : Int), f_X4_hasCorner S v1 v2 = some z → Go p l e R s m args below meth c Q D A (WX a g) 3 (em S) 0 [(0, .ref (a 1)), (1, .int (Int32.ofInt v1)), (2, .int (Int32.ofInt v2))] [] := by
  obtain ⟨⟨hx, hb, hml, hown, hts⟩, -, -, -, hnf, hno⟩ := id hc
  intro S v1 v2 h H locs ls hP hS hl
  rw [f_X4_hasCorner] at h
  replace hl : lv_has ls 3 [(0, .ref (a 1)), (1, .int (Int32.ofInt v1)), (2, .int (Int32.ofInt v2))] := hl
  refine lv_aload_n hx hb dX4_hasCorner_0 rfl (lv_at hl 0 rfl) ?_
  refine lv_iload_n hx hb dX4_hasCorner_1 rfl (lv_at hl 1 rfl) ?_
  refine lv_iconst (v := Int32.ofInt (0 : Int)) hx hb dX4_hasCorner_2 (by decide) ?_
  obtain ⟨S1, x3, hk2, h⟩ := ob2_at h
  refine cl_Vi (As := [.int (Int32.ofInt v1), .int (Int32.ofInt (0 : Int))]) (rest := []) hc k_X4_cornerOf q_195 (c_X4_cornerOf hk2) hP hS (WX_1 a g (em S)) rfl rfl rfl hl (Nat.le_of_ble_eq_true rfl) dX4_hasCorner_3 (Nat.le_of_ble_eq_true rfl) (Nat.le_of_ble_eq_true rfl) rfl (fun H locs hP hS => ?_)
  refine lv_iload_n hx hb dX4_hasCorner_6 rfl (lv_at hl 2 rfl) ?_
  obtain ⟨h4, h⟩ := chk_at h
  obtain ⟨h5, h⟩ := chk_at h
  refine z_icmp_eq (tgt := 30) hx hb h4 h5 dX4_hasCorner_7 (by decide) (fun hq => ?_) (fun hq => ?_)
  · replace h := if_yes hq h
    refine lv_iconst (v := Int32.ofInt (1 : Int)) hx hb dX4_hasCorner_30 (by decide) ?_
    refine lv_goto (tgt := 35) hx hb dX4_hasCorner_31 (by decide) ?_
    obtain rfl := Option.some.inj h
    exact hr (bit_of (Or.inr rfl)) _ _ _ _ dX4_hasCorner_35 hP hS
  · replace h := if_no hq h
    refine lv_aload_n hx hb dX4_hasCorner_10 rfl (lv_at hl 0 rfl) ?_
    refine lv_iload_n hx hb dX4_hasCorner_11 rfl (lv_at hl 1 rfl) ?_
    refine lv_iconst (v := Int32.ofInt (1 : Int)) hx hb dX4_hasCorner_12 (by decide) ?_
    obtain ⟨S6, x8, hk7, h⟩ := ob2_at h
    refine cl_Vi (As := [.int (Int32.ofInt v1), .int (Int32.ofInt (1 : Int))]) (rest := []) hc k_X4_cornerOf q_195 (c_X4_cornerOf hk7) hP hS (WX_1 a g (em S1)) rfl rfl rfl hl (Nat.le_of_ble_eq_true rfl) dX4_hasCorner_13 (Nat.le_of_ble_eq_true rfl) (Nat.le_of_ble_eq_true rfl) rfl (fun H locs hP hS => ?_)
    refine lv_iload_n hx hb dX4_hasCorner_16 rfl (lv_at hl 2 rfl) ?_
    obtain ⟨h9, h⟩ := chk_at h
    refine z_icmp_eq (tgt := 30) hx hb h9 h5 dX4_hasCorner_17 (by decide) (fun hq => ?_) (fun hq => ?_)
    · replace h := if_yes hq h
      refine lv_iconst (v := Int32.ofInt (1 : Int)) hx hb dX4_hasCorner_30 (by decide) ?_
      refine lv_goto (tgt := 35) hx hb dX4_hasCorner_31 (by decide) ?_
      obtain rfl := Option.some.inj h
      exact hr (bit_of (Or.inr rfl)) _ _ _ _ dX4_hasCorner_35 hP hS
    · replace h := if_no hq h
      refine lv_aload_n hx hb dX4_hasCorner_20 rfl (lv_at hl 0 rfl) ?_
      refine lv_iload_n hx hb dX4_hasCorner_21 rfl (lv_at hl 1 rfl) ?_
      refine lv_iconst (v := Int32.ofInt (2 : Int)) hx hb dX4_hasCorner_22 (by decide) ?_
      obtain ⟨S10, x12, hk11, h⟩ := ob2_at h
      refine cl_Vi (As := [.int (Int32.ofInt v1), .int (Int32.ofInt (2 : Int))]) (rest := []) hc k_X4_cornerOf q_195 (c_X4_cornerOf hk11) hP hS (WX_1 a g (em S6)) rfl rfl rfl hl (Nat.le_of_ble_eq_true rfl) dX4_hasCorner_23 (Nat.le_of_ble_eq_true rfl) (Nat.le_of_ble_eq_true rfl) rfl (fun H locs hP hS => ?_)
      refine lv_iload_n hx hb dX4_hasCorner_26 rfl (lv_at hl 2 rfl) ?_
      obtain ⟨h13, h⟩ := chk_at h
      refine z_icmp_ne (tgt := 34) hx hb h13 h5 dX4_hasCorner_27 (by decide) (fun hq => ?_) (fun hq => ?_)
      · replace h := if_no hq h
        refine lv_iconst (v := Int32.ofInt (0 : Int)) hx hb dX4_hasCorner_34 (by decide) ?_
        obtain rfl := Option.some.inj h
        exact hr (bit_of (Or.inl rfl)) _ _ _ _ dX4_hasCorner_35 hP hS
      · replace h := if_yes hq h
        refine lv_iconst (v := Int32.ofInt (1 : Int)) hx hb dX4_hasCorner_30 (by decide) ?_
        refine lv_goto (tgt := 35) hx hb dX4_hasCorner_31 (by decide) ?_
        obtain rfl := Option.some.inj h
        exact hr (bit_of (Or.inr rfl)) _ _ _ _ dX4_hasCorner_35 hP hS
abbrev rm_X4_hasCorner : Room := { frames := 1, cells := 0, slots := 0, locals := 22 }
theorem c_X4_hasCorner {l : Launch} {D : va_G} {a : Nat → Nat} {g : Nat → ClassId} {S : SZ} {v1 : Int} {v2 : Int} {Z1 : SZ} {r1 : Int} (h : f_X4_hasCorner S v1 v2 = some (Z1, r1)) : MetI l D (tysWX g) (WX a g) E0 yX4_hasCorner cX4_hasCorner 3 (some .boolean) rm_X4_hasCorner [.ref (a 1), .int (Int32.ofInt v1), .int (Int32.ofInt v2)] (em S) (em Z1, Int32.ofInt r1) := mk_z (WX_same a g) (by decide) (em Z1, Int32.ofInt r1) (Nat.le_of_ble_eq_true rfl) (fun p e s m args below meth c A Q hc hE hr => t_X4_hasCorner (z := (Z1, r1)) hc hr S v1 v2 h)
theorem k_X4_hasCorner : CalV RX4 yX4_hasCorner cX4_hasCorner 3 (some .boolean) rm_X4_hasCorner 2 := ⟨q_192, q_193, q_14, q_194, by decide +kernel, rfl, rfl⟩
set_option maxHeartbeats 4000000 in
set_option maxRecDepth 100000 in
theorem t_X4_hasFaceOn_p3 {z : SZ × Int} (hc : Cx p R s m args c D (tysWX g) A (WX a g) cX4_hasFaceOn 5 RX4 2 44) (hr : Rtz p l e R s m args below meth c Q D A (WX a g) cX4_hasFaceOn (em z.1, Int32.ofInt z.2)) : ∀ (fu : Nat) (S : SZ) (v1 : Int) (v2 : Int) (v3 : Int) (v4 : Int), f_X4_hasFaceOn_p3 fu S v1 v2 v3 v4 = some z → Go p l e R s m args below meth c Q D A (WX a g) 5 (em S) 3 [(0, .ref (a 1)), (1, .int (Int32.ofInt v1)), (2, .int (Int32.ofInt v2)), (3, .int (Int32.ofInt v3)), (4, .int (Int32.ofInt v4))] [] := by
  obtain ⟨⟨hx, hb, hml, hown, hts⟩, -, -, -, hnf, hno⟩ := id hc
  intro fu
  induction fu with
  | zero =>
    intro S v1 v2 v3 v4 h
    rw [f_X4_hasFaceOn_p3] at h
    cases h
  | succ fu ih =>
    intro S v1 v2 v3 v4 h H locs ls hP hS hl
    rw [f_X4_hasFaceOn_p3] at h
    refine lv_iload hx hb dX4_hasFaceOn_3 (lv_at hl 4 rfl) ?_
    refine lv_aload_n hx hb dX4_hasFaceOn_5 rfl (lv_at hl 0 rfl) ?_
    refine gzWX_Mesh_faces hc hP q_190 dX4_hasFaceOn_6 ?_
    obtain ⟨h1, h⟩ := chk_at h
    obtain ⟨h2, h⟩ := chk_at h
    refine z_icmp_ge (tgt := 50) hx hb h1 h2 dX4_hasFaceOn_9 (by decide) (fun hq => ?_) (fun hq => ?_)
    · replace h := if_yes hq h
      refine lv_iconst (v := Int32.ofInt (0 : Int)) hx hb dX4_hasFaceOn_50 (by decide) ?_
      obtain rfl := Option.some.inj h
      exact hr (bit_of (Or.inl rfl)) _ _ _ _ dX4_hasFaceOn_51 hP hS
    · replace h := if_no hq h
      refine lv_aload_n hx hb dX4_hasFaceOn_12 rfl (lv_at hl 0 rfl) ?_
      refine lv_iload hx hb dX4_hasFaceOn_13 (lv_at hl 4 rfl) ?_
      refine lv_iload_n hx hb dX4_hasFaceOn_15 rfl (lv_at hl 1 rfl) ?_
      obtain ⟨S3, x5, hk4, h⟩ := ob2_at h
      refine cl_Vi (As := [.int (Int32.ofInt v4), .int (Int32.ofInt v1)]) (rest := []) hc k_X4_hasCorner q_191 (c_X4_hasCorner hk4) hP hS (WX_1 a g (em S)) rfl rfl rfl hl (Nat.le_of_ble_eq_true rfl) dX4_hasFaceOn_16 (Nat.le_of_ble_eq_true rfl) (Nat.le_of_ble_eq_true rfl) rfl (fun H locs hP hS => ?_)
      obtain ⟨h6, h⟩ := chk_at h
      refine z_if_eq (tgt := 44) hx hb h6 dX4_hasFaceOn_19 (by decide) (fun hq => ?_) (fun hq => ?_)
      · replace h := if_yes hq h
        obtain ⟨x7, ex7⟩ : ∃ y : Int, y = v4 + (1 : Int) := ⟨_, rfl⟩
        replace h := olet_at ex7 h
        refine lv_iinc (v := Int32.ofInt x7) (lv' := [(4, .int (Int32.ofInt x7)), (0, .ref (a 1)), (1, .int (Int32.ofInt v1)), (2, .int (Int32.ofInt v2)), (3, .int (Int32.ofInt v3))]) hx hb dX4_hasFaceOn_44 hl (k := 4) rfl (by rw [ex7, Int32.ofInt_add]) (by decide) rfl (fun ls hl => ?_)
        refine lv_goto (tgt := 3) hx hb dX4_hasFaceOn_47 (by decide) ?_
        exact ih S3 v1 v2 v3 x7 h H locs ls hP hS (lv_sub hl [1, 2, 3, 4, 0] rfl)
      · replace h := if_no hq h
        refine lv_aload_n hx hb dX4_hasFaceOn_22 rfl (lv_at hl 0 rfl) ?_
        refine lv_iload hx hb dX4_hasFaceOn_23 (lv_at hl 4 rfl) ?_
        refine lv_iload_n hx hb dX4_hasFaceOn_25 rfl (lv_at hl 2 rfl) ?_
        obtain ⟨S8, x10, hk9, h⟩ := ob2_at h
        refine cl_Vi (As := [.int (Int32.ofInt v4), .int (Int32.ofInt v2)]) (rest := []) hc k_X4_hasCorner q_191 (c_X4_hasCorner hk9) hP hS (WX_1 a g (em S3)) rfl rfl rfl hl (Nat.le_of_ble_eq_true rfl) dX4_hasFaceOn_26 (Nat.le_of_ble_eq_true rfl) (Nat.le_of_ble_eq_true rfl) rfl (fun H locs hP hS => ?_)
        obtain ⟨h11, h⟩ := chk_at h
        refine z_if_eq (tgt := 44) hx hb h11 dX4_hasFaceOn_29 (by decide) (fun hq => ?_) (fun hq => ?_)
        · replace h := if_yes hq h
          obtain ⟨x12, ex12⟩ : ∃ y : Int, y = v4 + (1 : Int) := ⟨_, rfl⟩
          replace h := olet_at ex12 h
          refine lv_iinc (v := Int32.ofInt x12) (lv' := [(4, .int (Int32.ofInt x12)), (0, .ref (a 1)), (1, .int (Int32.ofInt v1)), (2, .int (Int32.ofInt v2)), (3, .int (Int32.ofInt v3))]) hx hb dX4_hasFaceOn_44 hl (k := 4) rfl (by rw [ex12, Int32.ofInt_add]) (by decide) rfl (fun ls hl => ?_)
          refine lv_goto (tgt := 3) hx hb dX4_hasFaceOn_47 (by decide) ?_
          exact ih S8 v1 v2 v3 x12 h H locs ls hP hS (lv_sub hl [1, 2, 3, 4, 0] rfl)
        · replace h := if_no hq h
          refine lv_aload_n hx hb dX4_hasFaceOn_32 rfl (lv_at hl 0 rfl) ?_
          refine lv_iload hx hb dX4_hasFaceOn_33 (lv_at hl 4 rfl) ?_
          refine lv_iload_n hx hb dX4_hasFaceOn_35 rfl (lv_at hl 3 rfl) ?_
          obtain ⟨S13, x15, hk14, h⟩ := ob2_at h
          refine cl_Vi (As := [.int (Int32.ofInt v4), .int (Int32.ofInt v3)]) (rest := []) hc k_X4_hasCorner q_191 (c_X4_hasCorner hk14) hP hS (WX_1 a g (em S8)) rfl rfl rfl hl (Nat.le_of_ble_eq_true rfl) dX4_hasFaceOn_36 (Nat.le_of_ble_eq_true rfl) (Nat.le_of_ble_eq_true rfl) rfl (fun H locs hP hS => ?_)
          obtain ⟨h16, h⟩ := chk_at h
          refine z_if_eq (tgt := 44) hx hb h16 dX4_hasFaceOn_39 (by decide) (fun hq => ?_) (fun hq => ?_)
          · replace h := if_yes hq h
            obtain ⟨x17, ex17⟩ : ∃ y : Int, y = v4 + (1 : Int) := ⟨_, rfl⟩
            replace h := olet_at ex17 h
            refine lv_iinc (v := Int32.ofInt x17) (lv' := [(4, .int (Int32.ofInt x17)), (0, .ref (a 1)), (1, .int (Int32.ofInt v1)), (2, .int (Int32.ofInt v2)), (3, .int (Int32.ofInt v3))]) hx hb dX4_hasFaceOn_44 hl (k := 4) rfl (by rw [ex17, Int32.ofInt_add]) (by decide) rfl (fun ls hl => ?_)
            refine lv_goto (tgt := 3) hx hb dX4_hasFaceOn_47 (by decide) ?_
            exact ih S13 v1 v2 v3 x17 h H locs ls hP hS (lv_sub hl [1, 2, 3, 4, 0] rfl)
          · replace h := if_no hq h
            refine lv_iconst (v := Int32.ofInt (1 : Int)) hx hb dX4_hasFaceOn_42 (by decide) ?_
            obtain rfl := Option.some.inj h
            exact hr (bit_of (Or.inr rfl)) _ _ _ _ dX4_hasFaceOn_43 hP hS
set_option maxHeartbeats 4000000 in
set_option maxRecDepth 100000 in
theorem t_X4_hasFaceOn {z : SZ × Int} (hc : Cx p R s m args c D (tysWX g) A (WX a g) cX4_hasFaceOn 5 RX4 2 44) (hr : Rtz p l e R s m args below meth c Q D A (WX a g) cX4_hasFaceOn (em z.1, Int32.ofInt z.2)) : ∀ (S : SZ) (v1 : Int) (v2 : Int) (v3 : Int), f_X4_hasFaceOn S v1 v2 v3 = some z → Go p l e R s m args below meth c Q D A (WX a g) 5 (em S) 0 [(0, .ref (a 1)), (1, .int (Int32.ofInt v1)), (2, .int (Int32.ofInt v2)), (3, .int (Int32.ofInt v3))] [] := by
  obtain ⟨⟨hx, hb, hml, hown, hts⟩, -, -, -, hnf, hno⟩ := id hc
  intro S v1 v2 v3 h H locs ls hP hS hl
  rw [f_X4_hasFaceOn] at h
  replace hl : lv_has ls 5 [(0, .ref (a 1)), (1, .int (Int32.ofInt v1)), (2, .int (Int32.ofInt v2)), (3, .int (Int32.ofInt v3))] := hl
  refine lv_iconst (v := Int32.ofInt (0 : Int)) hx hb dX4_hasFaceOn_0 (by decide) ?_
  refine lv_istore (lv' := [(4, .int (Int32.ofInt (0 : Int))), (0, .ref (a 1)), (1, .int (Int32.ofInt v1)), (2, .int (Int32.ofInt v2)), (3, .int (Int32.ofInt v3))]) hx hb dX4_hasFaceOn_1 hl (by decide) rfl (fun ls hl => ?_)
  exact t_X4_hasFaceOn_p3 hc hr FU S v1 v2 v3 (0 : Int) h H locs ls hP hS (lv_sub hl [1, 2, 3, 4, 0] rfl)
abbrev rm_X4_hasFaceOn : Room := { frames := 2, cells := 0, slots := 0, locals := 44 }
theorem c_X4_hasFaceOn {l : Launch} {D : va_G} {a : Nat → Nat} {g : Nat → ClassId} {S : SZ} {v1 : Int} {v2 : Int} {v3 : Int} {Z1 : SZ} {r1 : Int} (h : f_X4_hasFaceOn S v1 v2 v3 = some (Z1, r1)) : MetI l D (tysWX g) (WX a g) E0 yX4_hasFaceOn cX4_hasFaceOn 5 (some .boolean) rm_X4_hasFaceOn [.ref (a 1), .int (Int32.ofInt v1), .int (Int32.ofInt v2), .int (Int32.ofInt v3)] (em S) (em Z1, Int32.ofInt r1) := mk_z (WX_same a g) (by decide) (em Z1, Int32.ofInt r1) (Nat.le_of_ble_eq_true rfl) (fun p e s m args below meth c A Q hc hE hr => t_X4_hasFaceOn (z := (Z1, r1)) hc hr S v1 v2 v3 h)
theorem k_X4_hasFaceOn : CalV RX4 yX4_hasFaceOn cX4_hasFaceOn 5 (some .boolean) rm_X4_hasFaceOn 3 := ⟨q_187, q_188, q_14, q_189, by decide +kernel, rfl, rfl⟩
set_option maxHeartbeats 4000000 in
set_option maxRecDepth 100000 in
theorem t_X4_addFace {z : SZ × Int} (hc : Cx p R s m args c D (tysWX g) A (WX a g) cX4_addFace 4 RX4 0 0) (hr : Rti p l e R s m args below meth c Q D A (WX a g) cX4_addFace (em z.1, Int32.ofInt z.2)) : ∀ (S : SZ) (v1 : Int) (v2 : Int) (v3 : Int), f_X4_addFace S v1 v2 v3 = some z → Go p l e R s m args below meth c Q D A (WX a g) 4 (em S) 0 [(0, .ref (a 1)), (1, .int (Int32.ofInt v1)), (2, .int (Int32.ofInt v2)), (3, .int (Int32.ofInt v3))] [] := by
  obtain ⟨⟨hx, hb, hml, hown, hts⟩, -, -, -, hnf, hno⟩ := id hc
  intro S v1 v2 v3 h H locs ls hP hS hl
  rw [f_X4_addFace] at h
  replace hl : lv_has ls 4 [(0, .ref (a 1)), (1, .int (Int32.ofInt v1)), (2, .int (Int32.ofInt v2)), (3, .int (Int32.ofInt v3))] := hl
  refine lv_aload_n hx hb dX4_addFace_0 rfl (lv_at hl 0 rfl) ?_
  refine gfWX_Mesh_corners hc hP q_50 dX4_addFace_1 ?_
  refine lv_iconst (v := Int32.ofInt (3 : Int)) hx hb dX4_addFace_4 (by decide) ?_
  refine lv_aload_n hx hb dX4_addFace_5 rfl (lv_at hl 0 rfl) ?_
  refine gzWX_Mesh_faces hc hP q_190 dX4_addFace_6 ?_
  refine z_imul hx hb dX4_addFace_9 ?_
  refine lv_iload_n hx hb dX4_addFace_10 rfl (lv_at hl 1 rfl) ?_
  obtain ⟨h1, h⟩ := chk_at h
  refine szWX_Mesh_corners hc hP hS h1 dX4_addFace_11 (fun H locs hP hS => ?_)
  obtain ⟨S2, eS2⟩ : ∃ z, z = ua S 4 (((3 : Int) * (zi S 3))).toNat v1 := ⟨_, rfl⟩
  replace h := olet_at eS2 h
  rw [← eS2] at hP
  refine lv_aload_n hx hb dX4_addFace_12 rfl (lv_at hl 0 rfl) ?_
  refine gfWX_Mesh_corners hc hP q_50 dX4_addFace_13 ?_
  refine lv_iconst (v := Int32.ofInt (3 : Int)) hx hb dX4_addFace_16 (by decide) ?_
  refine lv_aload_n hx hb dX4_addFace_17 rfl (lv_at hl 0 rfl) ?_
  refine gzWX_Mesh_faces hc hP q_190 dX4_addFace_18 ?_
  refine z_imul hx hb dX4_addFace_21 ?_
  refine lv_iconst (v := Int32.ofInt (1 : Int)) hx hb dX4_addFace_22 (by decide) ?_
  refine z_iadd hx hb dX4_addFace_23 ?_
  refine lv_iload_n hx hb dX4_addFace_24 rfl (lv_at hl 2 rfl) ?_
  obtain ⟨h3, h⟩ := chk_at h
  refine szWX_Mesh_corners hc hP hS h3 dX4_addFace_25 (fun H locs hP hS => ?_)
  obtain ⟨S4, eS4⟩ : ∃ z, z = ua S2 4 ((((3 : Int) * (zi S2 3)) + (1 : Int))).toNat v2 := ⟨_, rfl⟩
  replace h := olet_at eS4 h
  rw [← eS4] at hP
  refine lv_aload_n hx hb dX4_addFace_26 rfl (lv_at hl 0 rfl) ?_
  refine gfWX_Mesh_corners hc hP q_50 dX4_addFace_27 ?_
  refine lv_iconst (v := Int32.ofInt (3 : Int)) hx hb dX4_addFace_30 (by decide) ?_
  refine lv_aload_n hx hb dX4_addFace_31 rfl (lv_at hl 0 rfl) ?_
  refine gzWX_Mesh_faces hc hP q_190 dX4_addFace_32 ?_
  refine z_imul hx hb dX4_addFace_35 ?_
  refine lv_iconst (v := Int32.ofInt (2 : Int)) hx hb dX4_addFace_36 (by decide) ?_
  refine z_iadd hx hb dX4_addFace_37 ?_
  refine lv_iload_n hx hb dX4_addFace_38 rfl (lv_at hl 3 rfl) ?_
  obtain ⟨h5, h⟩ := chk_at h
  refine szWX_Mesh_corners hc hP hS h5 dX4_addFace_39 (fun H locs hP hS => ?_)
  obtain ⟨S6, eS6⟩ : ∃ z, z = ua S4 4 ((((3 : Int) * (zi S4 3)) + (2 : Int))).toNat v3 := ⟨_, rfl⟩
  replace h := olet_at eS6 h
  rw [← eS6] at hP
  refine lv_aload_n hx hb dX4_addFace_40 rfl (lv_at hl 0 rfl) ?_
  refine lv_dup hx hb dX4_addFace_41 rfl ?_
  refine gzWX_Mesh_faces hc hP q_190 dX4_addFace_42 ?_
  refine lv_iconst (v := Int32.ofInt (1 : Int)) hx hb dX4_addFace_45 (by decide) ?_
  refine z_iadd hx hb dX4_addFace_46 ?_
  refine pzWX_Mesh_faces hc hP hS q_190 dX4_addFace_47 (fun H locs hP hS => ?_)
  obtain ⟨S7, eS7⟩ : ∃ z, z = ui S6 3 ((zi S6 3) + (1 : Int)) := ⟨_, rfl⟩
  replace h := olet_at eS7 h
  rw [← eS7] at hP
  refine lv_aload_n hx hb dX4_addFace_50 rfl (lv_at hl 0 rfl) ?_
  refine gzWX_Mesh_faces hc hP q_190 dX4_addFace_51 ?_
  refine lv_iconst (v := Int32.ofInt (1 : Int)) hx hb dX4_addFace_54 (by decide) ?_
  refine z_isub hx hb dX4_addFace_55 ?_
  obtain rfl := Option.some.inj h
  exact hr _ _ _ _ dX4_addFace_56 hP hS
abbrev rm_X4_addFace : Room := { frames := 0, cells := 0, slots := 0, locals := 0 }
theorem c_X4_addFace {l : Launch} {D : va_G} {a : Nat → Nat} {g : Nat → ClassId} {S : SZ} {v1 : Int} {v2 : Int} {v3 : Int} {Z1 : SZ} {r1 : Int} (h : f_X4_addFace S v1 v2 v3 = some (Z1, r1)) : MetI l D (tysWX g) (WX a g) E0 yX4_addFace cX4_addFace 4 (some .int) rm_X4_addFace [.ref (a 1), .int (Int32.ofInt v1), .int (Int32.ofInt v2), .int (Int32.ofInt v3)] (em S) (em Z1, Int32.ofInt r1) := mk_i (WX_same a g) (by decide) (em Z1, Int32.ofInt r1) (Nat.le_of_ble_eq_true rfl) (fun p e s m args below meth c A Q hc hE hr => t_X4_addFace (z := (Z1, r1)) hc hr S v1 v2 v3 h)
theorem k_X4_addFace : CalV RX4 yX4_addFace cX4_addFace 4 (some .int) rm_X4_addFace 3 := ⟨q_200, q_201, q_14, q_202, by decide +kernel, rfl, rfl⟩
set_option maxHeartbeats 4000000 in
set_option maxRecDepth 100000 in
theorem t_X4_hasWire_p44 {z : SZ × Int} (hc : Cx p R s m args c D (tysWX g) A (WX a g) cX4_hasWire 6 RX4 0 0) (hr : Rtz p l e R s m args below meth c Q D A (WX a g) cX4_hasWire (em z.1, Int32.ofInt z.2)) {k2 : SZ → Int → Int → Int → Option (SZ × Int)} (K2 : ∀ (S : SZ) (v1 : Int) (v2 : Int) (v3 : Int), k2 S v1 v2 v3 = some z → Go p l e R s m args below meth c Q D A (WX a g) 6 (em S) 2 [(0, .ref (a 1)), (1, .int (Int32.ofInt v1)), (2, .int (Int32.ofInt v2)), (3, .int (Int32.ofInt v3))] []) : ∀ (S : SZ) (v1 : Int) (v2 : Int) (v3 : Int) (v4 : Int) (v5 : Int), f_X4_hasWire_p44 k2 S v1 v2 v3 v4 v5 = some z → Go p l e R s m args below meth c Q D A (WX a g) 6 (em S) 44 [(0, .ref (a 1)), (1, .int (Int32.ofInt v1)), (2, .int (Int32.ofInt v2)), (3, .int (Int32.ofInt v3)), (4, .int (Int32.ofInt v4)), (5, .int (Int32.ofInt v5))] [] := by
  obtain ⟨⟨hx, hb, hml, hown, hts⟩, -, -, -, hnf, hno⟩ := id hc
  intro S v1 v2 v3 v4 v5 h H locs ls hP hS hl
  rw [f_X4_hasWire_p44] at h
  refine lv_iload hx hb dX4_hasWire_44 (lv_at hl 4 rfl) ?_
  refine lv_iload_n hx hb dX4_hasWire_46 rfl (lv_at hl 2 rfl) ?_
  obtain ⟨h1, h⟩ := chk_at h
  obtain ⟨h2, h⟩ := chk_at h
  refine z_icmp_ne (tgt := 58) hx hb h1 h2 dX4_hasWire_47 (by decide) (fun hq => ?_) (fun hq => ?_)
  · replace h := if_no hq h
    obtain ⟨x3, ex3⟩ : ∃ y : Int, y = v3 + (1 : Int) := ⟨_, rfl⟩
    replace h := olet_at ex3 h
    refine lv_iinc (v := Int32.ofInt x3) (lv' := [(3, .int (Int32.ofInt x3)), (0, .ref (a 1)), (1, .int (Int32.ofInt v1)), (2, .int (Int32.ofInt v2)), (4, .int (Int32.ofInt v4)), (5, .int (Int32.ofInt v5))]) hx hb dX4_hasWire_58 hl (k := 3) rfl (by rw [ex3, Int32.ofInt_add]) (by decide) rfl (fun ls hl => ?_)
    refine lv_goto (tgt := 2) hx hb dX4_hasWire_61 (by decide) ?_
    exact K2 S v1 v2 x3 h H locs ls hP hS (lv_sub hl [1, 2, 3, 0] rfl)
  · replace h := if_yes hq h
    refine lv_iload hx hb dX4_hasWire_50 (lv_at hl 5 rfl) ?_
    refine lv_iload_n hx hb dX4_hasWire_52 rfl (lv_at hl 1 rfl) ?_
    obtain ⟨h4, h⟩ := chk_at h
    obtain ⟨h5, h⟩ := chk_at h
    refine z_icmp_ne (tgt := 58) hx hb h4 h5 dX4_hasWire_53 (by decide) (fun hq => ?_) (fun hq => ?_)
    · replace h := if_no hq h
      obtain ⟨x6, ex6⟩ : ∃ y : Int, y = v3 + (1 : Int) := ⟨_, rfl⟩
      replace h := olet_at ex6 h
      refine lv_iinc (v := Int32.ofInt x6) (lv' := [(3, .int (Int32.ofInt x6)), (0, .ref (a 1)), (1, .int (Int32.ofInt v1)), (2, .int (Int32.ofInt v2)), (4, .int (Int32.ofInt v4)), (5, .int (Int32.ofInt v5))]) hx hb dX4_hasWire_58 hl (k := 3) rfl (by rw [ex6, Int32.ofInt_add]) (by decide) rfl (fun ls hl => ?_)
      refine lv_goto (tgt := 2) hx hb dX4_hasWire_61 (by decide) ?_
      exact K2 S v1 v2 x6 h H locs ls hP hS (lv_sub hl [1, 2, 3, 0] rfl)
    · replace h := if_yes hq h
      refine lv_iconst (v := Int32.ofInt (1 : Int)) hx hb dX4_hasWire_56 (by decide) ?_
      obtain rfl := Option.some.inj h
      exact hr (bit_of (Or.inr rfl)) _ _ _ _ dX4_hasWire_57 hP hS
set_option maxHeartbeats 4000000 in
set_option maxRecDepth 100000 in
theorem t_X4_hasWire_p2 {z : SZ × Int} (hc : Cx p R s m args c D (tysWX g) A (WX a g) cX4_hasWire 6 RX4 0 0) (hr : Rtz p l e R s m args below meth c Q D A (WX a g) cX4_hasWire (em z.1, Int32.ofInt z.2)) : ∀ (fu : Nat) (S : SZ) (v1 : Int) (v2 : Int) (v3 : Int), f_X4_hasWire_p2 fu S v1 v2 v3 = some z → Go p l e R s m args below meth c Q D A (WX a g) 6 (em S) 2 [(0, .ref (a 1)), (1, .int (Int32.ofInt v1)), (2, .int (Int32.ofInt v2)), (3, .int (Int32.ofInt v3))] [] := by
  obtain ⟨⟨hx, hb, hml, hown, hts⟩, -, -, -, hnf, hno⟩ := id hc
  intro fu
  induction fu with
  | zero =>
    intro S v1 v2 v3 h
    rw [f_X4_hasWire_p2] at h
    cases h
  | succ fu ih =>
    intro S v1 v2 v3 h H locs ls hP hS hl
    rw [f_X4_hasWire_p2] at h
    refine lv_iload_n hx hb dX4_hasWire_2 rfl (lv_at hl 3 rfl) ?_
    refine lv_aload_n hx hb dX4_hasWire_3 rfl (lv_at hl 0 rfl) ?_
    refine gzWX_Mesh_wires hc hP q_237 dX4_hasWire_4 ?_
    obtain ⟨h1, h⟩ := chk_at h
    obtain ⟨h2, h⟩ := chk_at h
    refine z_icmp_ge (tgt := 64) hx hb h1 h2 dX4_hasWire_7 (by decide) (fun hq => ?_) (fun hq => ?_)
    · replace h := if_yes hq h
      refine lv_iconst (v := Int32.ofInt (0 : Int)) hx hb dX4_hasWire_64 (by decide) ?_
      obtain rfl := Option.some.inj h
      exact hr (bit_of (Or.inl rfl)) _ _ _ _ dX4_hasWire_65 hP hS
    · replace h := if_no hq h
      refine lv_aload_n hx hb dX4_hasWire_10 rfl (lv_at hl 0 rfl) ?_
      refine gfWX_Mesh_wireEnds hc hP q_51 dX4_hasWire_11 ?_
      refine lv_iconst (v := Int32.ofInt (2 : Int)) hx hb dX4_hasWire_14 (by decide) ?_
      refine lv_iload_n hx hb dX4_hasWire_15 rfl (lv_at hl 3 rfl) ?_
      refine z_imul hx hb dX4_hasWire_16 ?_
      obtain ⟨h3, h⟩ := chk_at h
      refine azWX_Mesh_wireEnds hc hP h3 dX4_hasWire_17 ?_
      refine z_topi (fun x4 ex4 => ?_)
      replace h := olet_at ex4 h
      refine lv_istore (lv' := [(4, .int (Int32.ofInt x4)), (0, .ref (a 1)), (1, .int (Int32.ofInt v1)), (2, .int (Int32.ofInt v2)), (3, .int (Int32.ofInt v3))]) hx hb dX4_hasWire_18 hl (by decide) rfl (fun ls hl => ?_)
      refine lv_aload_n hx hb dX4_hasWire_20 rfl (lv_at hl 1 rfl) ?_
      refine gfWX_Mesh_wireEnds hc hP q_51 dX4_hasWire_21 ?_
      refine lv_iconst (v := Int32.ofInt (2 : Int)) hx hb dX4_hasWire_24 (by decide) ?_
      refine lv_iload_n hx hb dX4_hasWire_25 rfl (lv_at hl 4 rfl) ?_
      refine z_imul hx hb dX4_hasWire_26 ?_
      refine lv_iconst (v := Int32.ofInt (1 : Int)) hx hb dX4_hasWire_27 (by decide) ?_
      refine z_iadd hx hb dX4_hasWire_28 ?_
      obtain ⟨h5, h⟩ := chk_at h
      refine azWX_Mesh_wireEnds hc hP h5 dX4_hasWire_29 ?_
      refine z_topi (fun x6 ex6 => ?_)
      replace h := olet_at ex6 h
      refine lv_istore (lv' := [(5, .int (Int32.ofInt x6)), (4, .int (Int32.ofInt x4)), (0, .ref (a 1)), (1, .int (Int32.ofInt v1)), (2, .int (Int32.ofInt v2)), (3, .int (Int32.ofInt v3))]) hx hb dX4_hasWire_30 hl (by decide) rfl (fun ls hl => ?_)
      refine lv_iload hx hb dX4_hasWire_32 (lv_at hl 1 rfl) ?_
      refine lv_iload_n hx hb dX4_hasWire_34 rfl (lv_at hl 3 rfl) ?_
      obtain ⟨h7, h⟩ := chk_at h
      obtain ⟨h8, h⟩ := chk_at h
      refine z_icmp_ne (tgt := 44) hx hb h7 h8 dX4_hasWire_35 (by decide) (fun hq => ?_) (fun hq => ?_)
      · replace h := if_no hq h
        exact t_X4_hasWire_p44 hc hr ih S v1 v2 v3 x4 x6 h H locs ls hP hS (lv_sub hl [2, 3, 4, 5, 1, 0] rfl)
      · replace h := if_yes hq h
        refine lv_iload hx hb dX4_hasWire_38 (lv_at hl 0 rfl) ?_
        refine lv_iload_n hx hb dX4_hasWire_40 rfl (lv_at hl 4 rfl) ?_
        obtain ⟨h9, h⟩ := chk_at h
        obtain ⟨h10, h⟩ := chk_at h
        refine z_icmp_eq (tgt := 56) hx hb h9 h10 dX4_hasWire_41 (by decide) (fun hq => ?_) (fun hq => ?_)
        · replace h := if_yes hq h
          refine lv_iconst (v := Int32.ofInt (1 : Int)) hx hb dX4_hasWire_56 (by decide) ?_
          obtain rfl := Option.some.inj h
          exact hr (bit_of (Or.inr rfl)) _ _ _ _ dX4_hasWire_57 hP hS
        · replace h := if_no hq h
          exact t_X4_hasWire_p44 hc hr ih S v1 v2 v3 x4 x6 h H locs ls hP hS (lv_sub hl [2, 3, 4, 5, 1, 0] rfl)
set_option maxHeartbeats 4000000 in
set_option maxRecDepth 100000 in
theorem t_X4_hasWire {z : SZ × Int} (hc : Cx p R s m args c D (tysWX g) A (WX a g) cX4_hasWire 6 RX4 0 0) (hr : Rtz p l e R s m args below meth c Q D A (WX a g) cX4_hasWire (em z.1, Int32.ofInt z.2)) : ∀ (S : SZ) (v1 : Int) (v2 : Int), f_X4_hasWire S v1 v2 = some z → Go p l e R s m args below meth c Q D A (WX a g) 6 (em S) 0 [(0, .ref (a 1)), (1, .int (Int32.ofInt v1)), (2, .int (Int32.ofInt v2))] [] := by
  obtain ⟨⟨hx, hb, hml, hown, hts⟩, -, -, -, hnf, hno⟩ := id hc
  intro S v1 v2 h H locs ls hP hS hl
  rw [f_X4_hasWire] at h
  replace hl : lv_has ls 6 [(0, .ref (a 1)), (1, .int (Int32.ofInt v1)), (2, .int (Int32.ofInt v2))] := hl
  refine lv_iconst (v := Int32.ofInt (0 : Int)) hx hb dX4_hasWire_0 (by decide) ?_
  refine lv_istore_n (lv' := [(3, .int (Int32.ofInt (0 : Int))), (0, .ref (a 1)), (1, .int (Int32.ofInt v1)), (2, .int (Int32.ofInt v2))]) hx hb dX4_hasWire_1 rfl hl (by decide) rfl (fun ls hl => ?_)
  exact t_X4_hasWire_p2 hc hr FU S v1 v2 (0 : Int) h H locs ls hP hS (lv_sub hl [1, 2, 3, 0] rfl)
abbrev rm_X4_hasWire : Room := { frames := 0, cells := 0, slots := 0, locals := 0 }
theorem c_X4_hasWire {l : Launch} {D : va_G} {a : Nat → Nat} {g : Nat → ClassId} {S : SZ} {v1 : Int} {v2 : Int} {Z1 : SZ} {r1 : Int} (h : f_X4_hasWire S v1 v2 = some (Z1, r1)) : MetI l D (tysWX g) (WX a g) E0 yX4_hasWire cX4_hasWire 6 (some .boolean) rm_X4_hasWire [.ref (a 1), .int (Int32.ofInt v1), .int (Int32.ofInt v2)] (em S) (em Z1, Int32.ofInt r1) := mk_z (WX_same a g) (by decide) (em Z1, Int32.ofInt r1) (Nat.le_of_ble_eq_true rfl) (fun p e s m args below meth c A Q hc hE hr => t_X4_hasWire (z := (Z1, r1)) hc hr S v1 v2 h)
theorem k_X4_hasWire : CalV RX4 yX4_hasWire cX4_hasWire 6 (some .boolean) rm_X4_hasWire 2 := ⟨q_234, q_235, q_14, q_236, by decide +kernel, rfl, rfl⟩
set_option maxHeartbeats 4000000 in
set_option maxRecDepth 100000 in
theorem t_X4_addWire {z : SZ × Int} (hc : Cx p R s m args c D (tysWX g) A (WX a g) cX4_addWire 3 RX4 0 0) (hr : Rti p l e R s m args below meth c Q D A (WX a g) cX4_addWire (em z.1, Int32.ofInt z.2)) : ∀ (S : SZ) (v1 : Int) (v2 : Int), f_X4_addWire S v1 v2 = some z → Go p l e R s m args below meth c Q D A (WX a g) 3 (em S) 0 [(0, .ref (a 1)), (1, .int (Int32.ofInt v1)), (2, .int (Int32.ofInt v2))] [] := by
  obtain ⟨⟨hx, hb, hml, hown, hts⟩, -, -, -, hnf, hno⟩ := id hc
  intro S v1 v2 h H locs ls hP hS hl
  rw [f_X4_addWire] at h
  replace hl : lv_has ls 3 [(0, .ref (a 1)), (1, .int (Int32.ofInt v1)), (2, .int (Int32.ofInt v2))] := hl
  refine lv_aload_n hx hb dX4_addWire_0 rfl (lv_at hl 0 rfl) ?_
  refine gfWX_Mesh_wireEnds hc hP q_51 dX4_addWire_1 ?_
  refine lv_iconst (v := Int32.ofInt (2 : Int)) hx hb dX4_addWire_4 (by decide) ?_
  refine lv_aload_n hx hb dX4_addWire_5 rfl (lv_at hl 0 rfl) ?_
  refine gzWX_Mesh_wires hc hP q_237 dX4_addWire_6 ?_
  refine z_imul hx hb dX4_addWire_9 ?_
  refine lv_iload_n hx hb dX4_addWire_10 rfl (lv_at hl 1 rfl) ?_
  obtain ⟨h1, h⟩ := chk_at h
  refine szWX_Mesh_wireEnds hc hP hS h1 dX4_addWire_11 (fun H locs hP hS => ?_)
  obtain ⟨S2, eS2⟩ : ∃ z, z = ua S 5 (((2 : Int) * (zi S 4))).toNat v1 := ⟨_, rfl⟩
  replace h := olet_at eS2 h
  rw [← eS2] at hP
  refine lv_aload_n hx hb dX4_addWire_12 rfl (lv_at hl 0 rfl) ?_
  refine gfWX_Mesh_wireEnds hc hP q_51 dX4_addWire_13 ?_
  refine lv_iconst (v := Int32.ofInt (2 : Int)) hx hb dX4_addWire_16 (by decide) ?_
  refine lv_aload_n hx hb dX4_addWire_17 rfl (lv_at hl 0 rfl) ?_
  refine gzWX_Mesh_wires hc hP q_237 dX4_addWire_18 ?_
  refine z_imul hx hb dX4_addWire_21 ?_
  refine lv_iconst (v := Int32.ofInt (1 : Int)) hx hb dX4_addWire_22 (by decide) ?_
  refine z_iadd hx hb dX4_addWire_23 ?_
  refine lv_iload_n hx hb dX4_addWire_24 rfl (lv_at hl 2 rfl) ?_
  obtain ⟨h3, h⟩ := chk_at h
  refine szWX_Mesh_wireEnds hc hP hS h3 dX4_addWire_25 (fun H locs hP hS => ?_)
  obtain ⟨S4, eS4⟩ : ∃ z, z = ua S2 5 ((((2 : Int) * (zi S2 4)) + (1 : Int))).toNat v2 := ⟨_, rfl⟩
  replace h := olet_at eS4 h
  rw [← eS4] at hP
  refine lv_aload_n hx hb dX4_addWire_26 rfl (lv_at hl 0 rfl) ?_
  refine lv_dup hx hb dX4_addWire_27 rfl ?_
  refine gzWX_Mesh_wires hc hP q_237 dX4_addWire_28 ?_
  refine lv_iconst (v := Int32.ofInt (1 : Int)) hx hb dX4_addWire_31 (by decide) ?_
  refine z_iadd hx hb dX4_addWire_32 ?_
  refine pzWX_Mesh_wires hc hP hS q_237 dX4_addWire_33 (fun H locs hP hS => ?_)
  obtain ⟨S5, eS5⟩ : ∃ z, z = ui S4 4 ((zi S4 4) + (1 : Int)) := ⟨_, rfl⟩
  replace h := olet_at eS5 h
  rw [← eS5] at hP
  refine lv_aload_n hx hb dX4_addWire_36 rfl (lv_at hl 0 rfl) ?_
  refine gzWX_Mesh_wires hc hP q_237 dX4_addWire_37 ?_
  obtain rfl := Option.some.inj h
  exact hr _ _ _ _ dX4_addWire_40 hP hS
abbrev rm_X4_addWire : Room := { frames := 0, cells := 0, slots := 0, locals := 0 }
theorem c_X4_addWire {l : Launch} {D : va_G} {a : Nat → Nat} {g : Nat → ClassId} {S : SZ} {v1 : Int} {v2 : Int} {Z1 : SZ} {r1 : Int} (h : f_X4_addWire S v1 v2 = some (Z1, r1)) : MetI l D (tysWX g) (WX a g) E0 yX4_addWire cX4_addWire 3 (some .int) rm_X4_addWire [.ref (a 1), .int (Int32.ofInt v1), .int (Int32.ofInt v2)] (em S) (em Z1, Int32.ofInt r1) := mk_i (WX_same a g) (by decide) (em Z1, Int32.ofInt r1) (Nat.le_of_ble_eq_true rfl) (fun p e s m args below meth c A Q hc hE hr => t_X4_addWire (z := (Z1, r1)) hc hr S v1 v2 h)
theorem k_X4_addWire : CalV RX4 yX4_addWire cX4_addWire 3 (some .int) rm_X4_addWire 2 := ⟨q_239, q_240, q_14, q_241, by decide +kernel, rfl, rfl⟩
set_option maxHeartbeats 4000000 in
set_option maxRecDepth 100000 in
theorem t_X4_turnPoint_p105 {z : SZ × Int} (hc : Cx p R s m args c D (tysWX g) A (WX a g) cX4_turnPoint 6 RX4 1 24) (hr : Rtz p l e R s m args below meth c Q D A (WX a g) cX4_turnPoint (em z.1, Int32.ofInt z.2)) : ∀ (S : SZ) (v1 : Int) (v3 : Int) (v4 : Int) (v5 : Int), f_X4_turnPoint_p105 S v1 v3 v4 v5 = some z → Go p l e R s m args below meth c Q D A (WX a g) 6 (em S) 105 [(0, .ref (a 1)), (1, .int (Int32.ofInt v1)), (3, .int (Int32.ofInt v3)), (4, .int (Int32.ofInt v4)), (5, .int (Int32.ofInt v5))] [] := by
  obtain ⟨⟨hx, hb, hml, hown, hts⟩, -, -, -, hnf, hno⟩ := id hc
  intro S v1 v3 v4 v5 h H locs ls hP hS hl
  rw [f_X4_turnPoint_p105] at h
  refine lv_aload_n hx hb dX4_turnPoint_105 rfl (lv_at hl 0 rfl) ?_
  refine gfWX_Mesh_x hc hP q_47 dX4_turnPoint_106 ?_
  refine lv_iload_n hx hb dX4_turnPoint_109 rfl (lv_at hl 1 rfl) ?_
  obtain ⟨h1, h⟩ := chk_at h
  refine azWX_Mesh_x hc hP h1 dX4_turnPoint_110 ?_
  refine lv_iload_n hx hb dX4_turnPoint_111 rfl (lv_at hl 2 rfl) ?_
  obtain ⟨h2, h⟩ := chk_at h
  obtain ⟨h3, h⟩ := chk_at h
  refine z_icmp_ne (tgt := 137) hx hb h2 h3 dX4_turnPoint_112 (by decide) (fun hq => ?_) (fun hq => ?_)
  · replace h := if_no hq h
    refine lv_iconst (v := Int32.ofInt (1 : Int)) hx hb dX4_turnPoint_137 (by decide) ?_
    refine lv_goto (tgt := 142) hx hb dX4_turnPoint_138 (by decide) ?_
    obtain rfl := Option.some.inj h
    exact hr (bit_of (Or.inr rfl)) _ _ _ _ dX4_turnPoint_142 hP hS
  · replace h := if_yes hq h
    refine lv_aload_n hx hb dX4_turnPoint_115 rfl (lv_at hl 0 rfl) ?_
    refine gfWX_Mesh_y hc hP q_48 dX4_turnPoint_116 ?_
    refine lv_iload_n hx hb dX4_turnPoint_119 rfl (lv_at hl 1 rfl) ?_
    refine azWX_Mesh_y hc hP h1 dX4_turnPoint_120 ?_
    refine lv_iload hx hb dX4_turnPoint_121 (lv_at hl 3 rfl) ?_
    obtain ⟨h4, h⟩ := chk_at h
    obtain ⟨h5, h⟩ := chk_at h
    refine z_icmp_ne (tgt := 137) hx hb h4 h5 dX4_turnPoint_123 (by decide) (fun hq => ?_) (fun hq => ?_)
    · replace h := if_no hq h
      refine lv_iconst (v := Int32.ofInt (1 : Int)) hx hb dX4_turnPoint_137 (by decide) ?_
      refine lv_goto (tgt := 142) hx hb dX4_turnPoint_138 (by decide) ?_
      obtain rfl := Option.some.inj h
      exact hr (bit_of (Or.inr rfl)) _ _ _ _ dX4_turnPoint_142 hP hS
    · replace h := if_yes hq h
      refine lv_aload_n hx hb dX4_turnPoint_126 rfl (lv_at hl 0 rfl) ?_
      refine gfWX_Mesh_z hc hP q_49 dX4_turnPoint_127 ?_
      refine lv_iload_n hx hb dX4_turnPoint_130 rfl (lv_at hl 1 rfl) ?_
      refine azWX_Mesh_z hc hP h1 dX4_turnPoint_131 ?_
      refine lv_iload hx hb dX4_turnPoint_132 (lv_at hl 4 rfl) ?_
      obtain ⟨h6, h⟩ := chk_at h
      obtain ⟨h7, h⟩ := chk_at h
      refine z_icmp_eq (tgt := 141) hx hb h6 h7 dX4_turnPoint_134 (by decide) (fun hq => ?_) (fun hq => ?_)
      · replace h := if_yes hq h
        refine lv_iconst (v := Int32.ofInt (0 : Int)) hx hb dX4_turnPoint_141 (by decide) ?_
        obtain rfl := Option.some.inj h
        exact hr (bit_of (Or.inl rfl)) _ _ _ _ dX4_turnPoint_142 hP hS
      · replace h := if_no hq h
        refine lv_iconst (v := Int32.ofInt (1 : Int)) hx hb dX4_turnPoint_137 (by decide) ?_
        refine lv_goto (tgt := 142) hx hb dX4_turnPoint_138 (by decide) ?_
        obtain rfl := Option.some.inj h
        exact hr (bit_of (Or.inr rfl)) _ _ _ _ dX4_turnPoint_142 hP hS
set_option maxHeartbeats 4000000 in
set_option maxRecDepth 100000 in
theorem t_X4_turnPoint {z : SZ × Int} (hc : Cx p R s m args c D (tysWX g) A (WX a g) cX4_turnPoint 6 RX4 1 24) (hr : Rtz p l e R s m args below meth c Q D A (WX a g) cX4_turnPoint (em z.1, Int32.ofInt z.2)) : ∀ (S : SZ) (v1 : Int) (v2 : Int), f_X4_turnPoint S v1 v2 = some z → Go p l e R s m args below meth c Q D A (WX a g) 6 (em S) 0 [(0, .ref (a 1)), (1, .int (Int32.ofInt v1)), (2, .int (Int32.ofInt v2))] [] := by
  obtain ⟨⟨hx, hb, hml, hown, hts⟩, -, -, -, hnf, hno⟩ := id hc
  intro S v1 v2 h H locs ls hP hS hl
  rw [f_X4_turnPoint] at h
  replace hl : lv_has ls 6 [(0, .ref (a 1)), (1, .int (Int32.ofInt v1)), (2, .int (Int32.ofInt v2))] := hl
  refine lv_aload_n hx hb dX4_turnPoint_0 rfl (lv_at hl 0 rfl) ?_
  refine gfWX_Mesh_x hc hP q_47 dX4_turnPoint_1 ?_
  refine lv_iload_n hx hb dX4_turnPoint_4 rfl (lv_at hl 1 rfl) ?_
  obtain ⟨h1, h⟩ := chk_at h
  refine azWX_Mesh_x hc hP h1 dX4_turnPoint_5 ?_
  refine z_topi (fun x2 ex2 => ?_)
  replace h := olet_at ex2 h
  refine lv_istore_n (lv' := [(3, .int (Int32.ofInt x2)), (0, .ref (a 1)), (1, .int (Int32.ofInt v1)), (2, .int (Int32.ofInt v2))]) hx hb dX4_turnPoint_6 rfl hl (by decide) rfl (fun ls hl => ?_)
  refine lv_aload_n hx hb dX4_turnPoint_7 rfl (lv_at hl 1 rfl) ?_
  refine gfWX_Mesh_y hc hP q_48 dX4_turnPoint_8 ?_
  refine lv_iload_n hx hb dX4_turnPoint_11 rfl (lv_at hl 2 rfl) ?_
  refine azWX_Mesh_y hc hP h1 dX4_turnPoint_12 ?_
  refine z_topi (fun x3 ex3 => ?_)
  replace h := olet_at ex3 h
  refine lv_istore (lv' := [(4, .int (Int32.ofInt x3)), (3, .int (Int32.ofInt x2)), (0, .ref (a 1)), (1, .int (Int32.ofInt v1)), (2, .int (Int32.ofInt v2))]) hx hb dX4_turnPoint_13 hl (by decide) rfl (fun ls hl => ?_)
  refine lv_aload_n hx hb dX4_turnPoint_15 rfl (lv_at hl 2 rfl) ?_
  refine gfWX_Mesh_z hc hP q_49 dX4_turnPoint_16 ?_
  refine lv_iload_n hx hb dX4_turnPoint_19 rfl (lv_at hl 3 rfl) ?_
  refine azWX_Mesh_z hc hP h1 dX4_turnPoint_20 ?_
  refine z_topi (fun x4 ex4 => ?_)
  replace h := olet_at ex4 h
  refine lv_istore (lv' := [(5, .int (Int32.ofInt x4)), (4, .int (Int32.ofInt x3)), (3, .int (Int32.ofInt x2)), (0, .ref (a 1)), (1, .int (Int32.ofInt v1)), (2, .int (Int32.ofInt v2))]) hx hb dX4_turnPoint_21 hl (by decide) rfl (fun ls hl => ?_)
  refine lv_iload_n hx hb dX4_turnPoint_23 rfl (lv_at hl 5 rfl) ?_
  obtain ⟨h5, h⟩ := chk_at h
  by_cases hsw : v2 < 0 ∨ 2 < v2
  · replace h := if_yes hsw h
    refine lv_tableOut (tgt := 94) hx hb dX4_turnPoint_24 (by rw [o32 h5]; exact hsw) (by decide) ?_
    refine lv_aload_n hx hb dX4_turnPoint_94 rfl (lv_at hl 3 rfl) ?_
    refine lv_iload_n hx hb dX4_turnPoint_95 rfl (lv_at hl 4 rfl) ?_
    refine lv_iload_n hx hb dX4_turnPoint_96 rfl (lv_at hl 2 rfl) ?_
    refine lv_iload hx hb dX4_turnPoint_97 (lv_at hl 1 rfl) ?_
    refine lv_iload hx hb dX4_turnPoint_99 (lv_at hl 0 rfl) ?_
    refine z_ineg hx hb dX4_turnPoint_101 ?_
    obtain ⟨S6, hk7, h⟩ := ob1_at h
    refine cl_Vv (As := [.int (Int32.ofInt v1), .int (Int32.ofInt x2), .int (Int32.ofInt x3), .int (Int32.ofInt (-x4))]) (rest := []) hc k_X4_put q_146 (c_X4_put hk7) hP hS (WX_1 a g (em S)) rfl rfl rfl hl (Nat.le_of_ble_eq_true rfl) dX4_turnPoint_102 (Nat.le_of_ble_eq_true rfl) (Nat.le_of_ble_eq_true rfl) rfl (fun H locs hP hS => ?_)
    exact t_X4_turnPoint_p105 hc hr S6 v1 x2 x3 x4 h H locs ls hP hS (lv_sub hl [3, 4, 2, 1, 0] rfl)
  replace h := if_no hsw h
  by_cases hs0 : v2 = 0
  · replace h := if_yes hs0 h
    refine lv_tableIn (off := 28) (tgt := 52) hx hb dX4_turnPoint_24 (by rw [o32 h5]; exact fun h9 => hsw (Or.inl h9)) (by rw [o32 h5]; exact fun h9 => hsw (Or.inr h9)) (by rw [o32 h5, hs0]; rfl) (by decide) ?_
    refine lv_aload_n hx hb dX4_turnPoint_52 rfl (lv_at hl 3 rfl) ?_
    refine lv_iload_n hx hb dX4_turnPoint_53 rfl (lv_at hl 4 rfl) ?_
    refine lv_iload_n hx hb dX4_turnPoint_54 rfl (lv_at hl 2 rfl) ?_
    refine lv_iload hx hb dX4_turnPoint_55 (lv_at hl 0 rfl) ?_
    refine z_ineg hx hb dX4_turnPoint_57 ?_
    refine lv_iload hx hb dX4_turnPoint_58 (lv_at hl 1 rfl) ?_
    obtain ⟨S8, hk9, h⟩ := ob1_at h
    refine cl_Vv (As := [.int (Int32.ofInt v1), .int (Int32.ofInt x2), .int (Int32.ofInt (-x4)), .int (Int32.ofInt x3)]) (rest := []) hc k_X4_put q_146 (c_X4_put hk9) hP hS (WX_1 a g (em S)) rfl rfl rfl hl (Nat.le_of_ble_eq_true rfl) dX4_turnPoint_60 (Nat.le_of_ble_eq_true rfl) (Nat.le_of_ble_eq_true rfl) rfl (fun H locs hP hS => ?_)
    refine lv_goto (tgt := 105) hx hb dX4_turnPoint_63 (by decide) ?_
    exact t_X4_turnPoint_p105 hc hr S8 v1 x2 x3 x4 h H locs ls hP hS (lv_sub hl [3, 4, 2, 1, 0] rfl)
  replace h := if_no hs0 h
  by_cases hs1 : v2 = 1
  · replace h := if_yes hs1 h
    refine lv_tableIn (off := 42) (tgt := 66) hx hb dX4_turnPoint_24 (by rw [o32 h5]; exact fun h9 => hsw (Or.inl h9)) (by rw [o32 h5]; exact fun h9 => hsw (Or.inr h9)) (by rw [o32 h5, hs1]; rfl) (by decide) ?_
    refine lv_aload_n hx hb dX4_turnPoint_66 rfl (lv_at hl 3 rfl) ?_
    refine lv_iload_n hx hb dX4_turnPoint_67 rfl (lv_at hl 4 rfl) ?_
    refine lv_iload hx hb dX4_turnPoint_68 (lv_at hl 0 rfl) ?_
    refine lv_iload hx hb dX4_turnPoint_70 (lv_at hl 1 rfl) ?_
    refine lv_iload_n hx hb dX4_turnPoint_72 rfl (lv_at hl 2 rfl) ?_
    refine z_ineg hx hb dX4_turnPoint_73 ?_
    obtain ⟨S10, hk11, h⟩ := ob1_at h
    refine cl_Vv (As := [.int (Int32.ofInt v1), .int (Int32.ofInt x4), .int (Int32.ofInt x3), .int (Int32.ofInt (-x2))]) (rest := []) hc k_X4_put q_146 (c_X4_put hk11) hP hS (WX_1 a g (em S)) rfl rfl rfl hl (Nat.le_of_ble_eq_true rfl) dX4_turnPoint_74 (Nat.le_of_ble_eq_true rfl) (Nat.le_of_ble_eq_true rfl) rfl (fun H locs hP hS => ?_)
    refine lv_goto (tgt := 105) hx hb dX4_turnPoint_77 (by decide) ?_
    exact t_X4_turnPoint_p105 hc hr S10 v1 x2 x3 x4 h H locs ls hP hS (lv_sub hl [3, 4, 2, 1, 0] rfl)
  replace h := if_no hs1 h
  by_cases hs2 : v2 = 2
  · replace h := if_yes hs2 h
    refine lv_tableIn (off := 56) (tgt := 80) hx hb dX4_turnPoint_24 (by rw [o32 h5]; exact fun h9 => hsw (Or.inl h9)) (by rw [o32 h5]; exact fun h9 => hsw (Or.inr h9)) (by rw [o32 h5, hs2]; rfl) (by decide) ?_
    refine lv_aload_n hx hb dX4_turnPoint_80 rfl (lv_at hl 3 rfl) ?_
    refine lv_iload_n hx hb dX4_turnPoint_81 rfl (lv_at hl 4 rfl) ?_
    refine lv_iload hx hb dX4_turnPoint_82 (lv_at hl 1 rfl) ?_
    refine z_ineg hx hb dX4_turnPoint_84 ?_
    refine lv_iload_n hx hb dX4_turnPoint_85 rfl (lv_at hl 2 rfl) ?_
    refine lv_iload hx hb dX4_turnPoint_86 (lv_at hl 0 rfl) ?_
    obtain ⟨S12, hk13, h⟩ := ob1_at h
    refine cl_Vv (As := [.int (Int32.ofInt v1), .int (Int32.ofInt (-x3)), .int (Int32.ofInt x2), .int (Int32.ofInt x4)]) (rest := []) hc k_X4_put q_146 (c_X4_put hk13) hP hS (WX_1 a g (em S)) rfl rfl rfl hl (Nat.le_of_ble_eq_true rfl) dX4_turnPoint_88 (Nat.le_of_ble_eq_true rfl) (Nat.le_of_ble_eq_true rfl) rfl (fun H locs hP hS => ?_)
    refine lv_goto (tgt := 105) hx hb dX4_turnPoint_91 (by decide) ?_
    exact t_X4_turnPoint_p105 hc hr S12 v1 x2 x3 x4 h H locs ls hP hS (lv_sub hl [3, 4, 2, 1, 0] rfl)
  replace h := if_no hs2 h
  cases h
abbrev rm_X4_turnPoint : Room := { frames := 1, cells := 0, slots := 0, locals := 24 }
theorem c_X4_turnPoint {l : Launch} {D : va_G} {a : Nat → Nat} {g : Nat → ClassId} {S : SZ} {v1 : Int} {v2 : Int} {Z1 : SZ} {r1 : Int} (h : f_X4_turnPoint S v1 v2 = some (Z1, r1)) : MetI l D (tysWX g) (WX a g) E0 yX4_turnPoint cX4_turnPoint 6 (some .boolean) rm_X4_turnPoint [.ref (a 1), .int (Int32.ofInt v1), .int (Int32.ofInt v2)] (em S) (em Z1, Int32.ofInt r1) := mk_z (WX_same a g) (by decide) (em Z1, Int32.ofInt r1) (Nat.le_of_ble_eq_true rfl) (fun p e s m args below meth c A Q hc hE hr => t_X4_turnPoint (z := (Z1, r1)) hc hr S v1 v2 h)
theorem k_X4_turnPoint : CalV RX4 yX4_turnPoint cX4_turnPoint 6 (some .boolean) rm_X4_turnPoint 2 := ⟨q_309, q_310, q_14, q_311, by decide +kernel, rfl, rfl⟩
set_option maxHeartbeats 4000000 in
set_option maxRecDepth 100000 in
theorem t_X4_faceWith_p7 {z : SZ × Int} (hc : Cx p R s m args c D (tysWX g) A (WX a g) cX4_faceWith 5 RX4 2 44) (hr : Rti p l e R s m args below meth c Q D A (WX a g) cX4_faceWith (em z.1, Int32.ofInt z.2)) : ∀ (fu : Nat) (S : SZ) (v1 : Int) (v2 : Int) (v4 : Int), f_X4_faceWith_p7 fu S v1 v2 v4 = some z → Go p l e R s m args below meth c Q D A (WX a g) 5 (em S) 7 [(0, .ref (a 1)), (1, .int (Int32.ofInt v1)), (2, .int (Int32.ofInt v2)), (4, .int (Int32.ofInt v4))] [] := by
  obtain ⟨⟨hx, hb, hml, hown, hts⟩, -, -, -, hnf, hno⟩ := id hc
  intro fu
  induction fu with
  | zero =>
    intro S v1 v2 v4 h
    rw [f_X4_faceWith_p7] at h
    cases h
  | succ fu ih =>
    intro S v1 v2 v4 h H locs ls hP hS hl
    rw [f_X4_faceWith_p7] at h
    refine lv_iload hx hb dX4_faceWith_7 (lv_at hl 3 rfl) ?_
    refine lv_aload_n hx hb dX4_faceWith_9 rfl (lv_at hl 0 rfl) ?_
    refine gzWX_Mesh_faces hc hP q_190 dX4_faceWith_10 ?_
    obtain ⟨h1, h⟩ := chk_at h
    obtain ⟨h2, h⟩ := chk_at h
    refine z_icmp_ge (tgt := 45) hx hb h1 h2 dX4_faceWith_13 (by decide) (fun hq => ?_) (fun hq => ?_)
    · replace h := if_yes hq h
      refine lv_bipush (v := Int32.ofInt (-9 : Int)) hx hb dX4_faceWith_45 (by decide) ?_
      obtain rfl := Option.some.inj h
      exact hr _ _ _ _ dX4_faceWith_47 hP hS
    · replace h := if_no hq h
      refine lv_aload_n hx hb dX4_faceWith_16 rfl (lv_at hl 0 rfl) ?_
      refine lv_iload hx hb dX4_faceWith_17 (lv_at hl 3 rfl) ?_
      refine lv_iload_n hx hb dX4_faceWith_19 rfl (lv_at hl 1 rfl) ?_
      obtain ⟨S3, x5, hk4, h⟩ := ob2_at h
      refine cl_Vi (As := [.int (Int32.ofInt v4), .int (Int32.ofInt v1)]) (rest := []) hc k_X4_hasCorner q_191 (c_X4_hasCorner hk4) hP hS (WX_1 a g (em S)) rfl rfl rfl hl (Nat.le_of_ble_eq_true rfl) dX4_faceWith_20 (Nat.le_of_ble_eq_true rfl) (Nat.le_of_ble_eq_true rfl) rfl (fun H locs hP hS => ?_)
      obtain ⟨h6, h⟩ := chk_at h
      refine z_if_eq (tgt := 39) hx hb h6 dX4_faceWith_23 (by decide) (fun hq => ?_) (fun hq => ?_)
      · replace h := if_yes hq h
        obtain ⟨x7, ex7⟩ : ∃ y : Int, y = v4 + (1 : Int) := ⟨_, rfl⟩
        replace h := olet_at ex7 h
        refine lv_iinc (v := Int32.ofInt x7) (lv' := [(4, .int (Int32.ofInt x7)), (0, .ref (a 1)), (1, .int (Int32.ofInt v1)), (2, .int (Int32.ofInt v2))]) hx hb dX4_faceWith_39 hl (k := 3) rfl (by rw [ex7, Int32.ofInt_add]) (by decide) rfl (fun ls hl => ?_)
        refine lv_goto (tgt := 7) hx hb dX4_faceWith_42 (by decide) ?_
        exact ih S3 v1 v2 x7 h H locs ls hP hS (lv_sub hl [1, 2, 3, 0] rfl)
      · replace h := if_no hq h
        refine lv_aload_n hx hb dX4_faceWith_26 rfl (lv_at hl 0 rfl) ?_
        refine lv_iload hx hb dX4_faceWith_27 (lv_at hl 3 rfl) ?_
        refine lv_iload_n hx hb dX4_faceWith_29 rfl (lv_at hl 2 rfl) ?_
        obtain ⟨S8, x10, hk9, h⟩ := ob2_at h
        refine cl_Vi (As := [.int (Int32.ofInt v4), .int (Int32.ofInt v2)]) (rest := []) hc k_X4_hasCorner q_191 (c_X4_hasCorner hk9) hP hS (WX_1 a g (em S3)) rfl rfl rfl hl (Nat.le_of_ble_eq_true rfl) dX4_faceWith_30 (Nat.le_of_ble_eq_true rfl) (Nat.le_of_ble_eq_true rfl) rfl (fun H locs hP hS => ?_)
        obtain ⟨h11, h⟩ := chk_at h
        refine z_if_eq (tgt := 39) hx hb h11 dX4_faceWith_33 (by decide) (fun hq => ?_) (fun hq => ?_)
        · replace h := if_yes hq h
          obtain ⟨x12, ex12⟩ : ∃ y : Int, y = v4 + (1 : Int) := ⟨_, rfl⟩
          replace h := olet_at ex12 h
          refine lv_iinc (v := Int32.ofInt x12) (lv' := [(4, .int (Int32.ofInt x12)), (0, .ref (a 1)), (1, .int (Int32.ofInt v1)), (2, .int (Int32.ofInt v2))]) hx hb dX4_faceWith_39 hl (k := 3) rfl (by rw [ex12, Int32.ofInt_add]) (by decide) rfl (fun ls hl => ?_)
          refine lv_goto (tgt := 7) hx hb dX4_faceWith_42 (by decide) ?_
          exact ih S8 v1 v2 x12 h H locs ls hP hS (lv_sub hl [1, 2, 3, 0] rfl)
        · replace h := if_no hq h
          refine lv_iload hx hb dX4_faceWith_36 (lv_at hl 3 rfl) ?_
          obtain rfl := Option.some.inj h
          exact hr _ _ _ _ dX4_faceWith_38 hP hS
set_option maxHeartbeats 4000000 in
set_option maxRecDepth 100000 in
theorem t_X4_faceWith {z : SZ × Int} (hc : Cx p R s m args c D (tysWX g) A (WX a g) cX4_faceWith 5 RX4 2 44) (hr : Rti p l e R s m args below meth c Q D A (WX a g) cX4_faceWith (em z.1, Int32.ofInt z.2)) : ∀ (S : SZ) (v1 : Int) (v2 : Int) (v3 : Int), f_X4_faceWith S v1 v2 v3 = some z → Go p l e R s m args below meth c Q D A (WX a g) 5 (em S) 0 [(0, .ref (a 1)), (1, .int (Int32.ofInt v1)), (2, .int (Int32.ofInt v2)), (3, .int (Int32.ofInt v3))] [] := by
  obtain ⟨⟨hx, hb, hml, hown, hts⟩, -, -, -, hnf, hno⟩ := id hc
  intro S v1 v2 v3 h H locs ls hP hS hl
  rw [f_X4_faceWith] at h
  replace hl : lv_has ls 5 [(0, .ref (a 1)), (1, .int (Int32.ofInt v1)), (2, .int (Int32.ofInt v2)), (3, .int (Int32.ofInt v3))] := hl
  refine lv_iload_n hx hb dX4_faceWith_0 rfl (lv_at hl 3 rfl) ?_
  refine lv_iconst (v := Int32.ofInt (0 : Int)) hx hb dX4_faceWith_1 (by decide) ?_
  obtain ⟨h1, h⟩ := chk_at h
  refine z_mmax hx hb (hml.trans hl.1.symm) hown (hts _ q_408) (hts _ q_392) (hts _ q_389) (hts _ q_393) (Nat.le_trans (Nat.le_of_ble_eq_true rfl) hnf) (Nat.le_trans (Nat.le_of_ble_eq_true rfl) hno) h1 (by decide) dX4_faceWith_2 ?_
  refine z_topi (fun x2 ex2 => ?_)
  replace h := olet_at ex2 h
  refine lv_istore (lv' := [(4, .int (Int32.ofInt x2)), (0, .ref (a 1)), (1, .int (Int32.ofInt v1)), (2, .int (Int32.ofInt v2)), (3, .int (Int32.ofInt v3))]) hx hb dX4_faceWith_5 hl (by decide) rfl (fun ls hl => ?_)
  exact t_X4_faceWith_p7 hc hr FU S v1 v2 x2 h H locs ls hP hS (lv_sub hl [1, 2, 3, 0] rfl)
abbrev rm_X4_faceWith : Room := { frames := 2, cells := 0, slots := 0, locals := 44 }
theorem c_X4_faceWith {l : Launch} {D : va_G} {a : Nat → Nat} {g : Nat → ClassId} {S : SZ} {v1 : Int} {v2 : Int} {v3 : Int} {Z1 : SZ} {r1 : Int} (h : f_X4_faceWith S v1 v2 v3 = some (Z1, r1)) : MetI l D (tysWX g) (WX a g) E0 yX4_faceWith cX4_faceWith 5 (some .int) rm_X4_faceWith [.ref (a 1), .int (Int32.ofInt v1), .int (Int32.ofInt v2), .int (Int32.ofInt v3)] (em S) (em Z1, Int32.ofInt r1) := mk_i (WX_same a g) (by decide) (em Z1, Int32.ofInt r1) (Nat.le_of_ble_eq_true rfl) (fun p e s m args below meth c A Q hc hE hr => t_X4_faceWith (z := (Z1, r1)) hc hr S v1 v2 v3 h)
theorem k_X4_faceWith : CalV RX4 yX4_faceWith cX4_faceWith 5 (some .int) rm_X4_faceWith 3 := ⟨q_405, q_406, q_14, q_407, by decide +kernel, rfl, rfl⟩
set_option maxHeartbeats 4000000 in
set_option maxRecDepth 100000 in
theorem t_X4_hasFace {z : SZ × Int} (hc : Cx p R s m args c D (tysWX g) A (WX a g) cX4_hasFace 2 RX4 0 0) (hr : Rtz p l e R s m args below meth c Q D A (WX a g) cX4_hasFace (em z.1, Int32.ofInt z.2)) : ∀ (S : SZ) (v1 : Int), f_X4_hasFace S v1 = some z → Go p l e R s m args below meth c Q D A (WX a g) 2 (em S) 0 [(0, .ref (a 1)), (1, .int (Int32.ofInt v1))] [] := by
  obtain ⟨⟨hx, hb, hml, hown, hts⟩, -, -, -, hnf, hno⟩ := id hc
  intro S v1 h H locs ls hP hS hl
  rw [f_X4_hasFace] at h
  replace hl : lv_has ls 2 [(0, .ref (a 1)), (1, .int (Int32.ofInt v1))] := hl
  refine lv_iload_n hx hb dX4_hasFace_0 rfl (lv_at hl 1 rfl) ?_
  obtain ⟨h1, h⟩ := chk_at h
  refine z_if_lt (tgt := 16) hx hb h1 dX4_hasFace_1 (by decide) (fun hq => ?_) (fun hq => ?_)
  · replace h := if_yes hq h
    refine lv_iconst (v := Int32.ofInt (0 : Int)) hx hb dX4_hasFace_16 (by decide) ?_
    obtain rfl := Option.some.inj h
    exact hr (bit_of (Or.inl rfl)) _ _ _ _ dX4_hasFace_17 hP hS
  · replace h := if_no hq h
    refine lv_iload_n hx hb dX4_hasFace_4 rfl (lv_at hl 1 rfl) ?_
    refine lv_aload_n hx hb dX4_hasFace_5 rfl (lv_at hl 0 rfl) ?_
    refine gzWX_Mesh_faces hc hP q_190 dX4_hasFace_6 ?_
    obtain ⟨h2, h⟩ := chk_at h
    refine z_icmp_ge (tgt := 16) hx hb h1 h2 dX4_hasFace_9 (by decide) (fun hq => ?_) (fun hq => ?_)
    · replace h := if_yes hq h
      refine lv_iconst (v := Int32.ofInt (0 : Int)) hx hb dX4_hasFace_16 (by decide) ?_
      obtain rfl := Option.some.inj h
      exact hr (bit_of (Or.inl rfl)) _ _ _ _ dX4_hasFace_17 hP hS
    · replace h := if_no hq h
      refine lv_iconst (v := Int32.ofInt (1 : Int)) hx hb dX4_hasFace_12 (by decide) ?_
      refine lv_goto (tgt := 17) hx hb dX4_hasFace_13 (by decide) ?_
      obtain rfl := Option.some.inj h
      exact hr (bit_of (Or.inr rfl)) _ _ _ _ dX4_hasFace_17 hP hS
abbrev rm_X4_hasFace : Room := { frames := 0, cells := 0, slots := 0, locals := 0 }
theorem c_X4_hasFace {l : Launch} {D : va_G} {a : Nat → Nat} {g : Nat → ClassId} {S : SZ} {v1 : Int} {Z1 : SZ} {r1 : Int} (h : f_X4_hasFace S v1 = some (Z1, r1)) : MetI l D (tysWX g) (WX a g) E0 yX4_hasFace cX4_hasFace 2 (some .boolean) rm_X4_hasFace [.ref (a 1), .int (Int32.ofInt v1)] (em S) (em Z1, Int32.ofInt r1) := mk_z (WX_same a g) (by decide) (em Z1, Int32.ofInt r1) (Nat.le_of_ble_eq_true rfl) (fun p e s m args below meth c A Q hc hE hr => t_X4_hasFace (z := (Z1, r1)) hc hr S v1 h)
theorem k_X4_hasFace : CalV RX4 yX4_hasFace cX4_hasFace 2 (some .boolean) rm_X4_hasFace 1 := ⟨q_637, q_638, q_14, q_639, by decide +kernel, rfl, rfl⟩
end W
