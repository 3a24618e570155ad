section W
variable {p : Program} {l : Launch} {e : Env} {R : Room} {s : State} {m : MethodId} {args : Array Value} {below : List Frame} {meth : Method} {c : Code} {Q : State → Prop} {D : va_G} {A : Nat → Prop} {a : Nat → Nat} {g : Nat → ClassId}
set_option maxHeartbeats 4000000 in
set_option maxRecDepth 100000 in
theorem t_X6_look {z : SZ} (hc : Cx p R s m args c D (tysWX g) A (WX a g) cX6_look 4 RX6 0 0) (hr : Rtv p l e R s m args below meth c Q D A (WX a g) cX6_look (em z)) : ∀ (S : SZ) (v1 : Int) (v2 : Int) (v3 : Int), f_X6_look S v1 v2 v3 = some z → Go p l e R s m args below meth c Q D A (WX a g) 4 (em S) 0 [(0, .ref (a 2)), (1, .int (Int32.ofInt v1)), (2, .int (Int32.ofInt v2)), (3, .int (Int32.ofInt v3))] [] := by
  obtain ⟨⟨hx, hb, hml, hown, hts⟩, -, -, -, hnf, hno⟩ := id hc
  intro S v1 v2 v3 h H locs ls hP hS hl
  rw [f_X6_look] at h
  replace hl : lv_has ls 4 [(0, .ref (a 2)), (1, .int (Int32.ofInt v1)), (2, .int (Int32.ofInt v2)), (3, .int (Int32.ofInt v3))] := hl
  refine lv_aload_n hx hb dX6_look_0 rfl (lv_at hl 0 rfl) ?_
  refine lv_iload_n hx hb dX6_look_1 rfl (lv_at hl 1 rfl) ?_
  refine pzWX_Sight_a hc hP hS q_55 dX6_look_2 (fun H locs hP hS => ?_)
  obtain ⟨S1, eS1⟩ : ∃ z, z = ui S 5 v1 := ⟨_, rfl⟩
  replace h := olet_at eS1 h
  rw [← eS1] at hP
  refine lv_aload_n hx hb dX6_look_5 rfl (lv_at hl 0 rfl) ?_
  refine lv_iload_n hx hb dX6_look_6 rfl (lv_at hl 2 rfl) ?_
  refine pzWX_Sight_b hc hP hS q_56 dX6_look_7 (fun H locs hP hS => ?_)
  obtain ⟨S2, eS2⟩ : ∃ z, z = ui S1 6 v2 := ⟨_, rfl⟩
  replace h := olet_at eS2 h
  rw [← eS2] at hP
  refine lv_aload_n hx hb dX6_look_10 rfl (lv_at hl 0 rfl) ?_
  refine lv_iload_n hx hb dX6_look_11 rfl (lv_at hl 3 rfl) ?_
  refine pzWX_Sight_c hc hP hS q_57 dX6_look_12 (fun H locs hP hS => ?_)
  obtain ⟨S3, eS3⟩ : ∃ z, z = ui S2 7 v3 := ⟨_, rfl⟩
  replace h := olet_at eS3 h
  rw [← eS3] at hP
  obtain rfl := Option.some.inj h
  exact hr _ _ _ _ dX6_look_15 hP hS
abbrev rm_X6_look : Room := { frames := 0, cells := 0, slots := 0, locals := 0 }
theorem c_X6_look {l : Launch} {D : va_G} {a : Nat → Nat} {g : Nat → ClassId} {S : SZ} {v1 : Int} {v2 : Int} {v3 : Int} {z : SZ} (h : f_X6_look S v1 v2 v3 = some z) : MetV l D (tysWX g) (WX a g) E0 yX6_look cX6_look 4 none rm_X6_look [.ref (a 2), .int (Int32.ofInt v1), .int (Int32.ofInt v2), .int (Int32.ofInt v3)] (em S) (em z) := mk_v (WX_same a g) (by decide) (em z) (Nat.le_of_ble_eq_true rfl) (fun p e s m args below meth c A Q hc hE hr => t_X6_look (z := z) hc hr S v1 v2 v3 h)
theorem k_X6_look : CalV RX6 yX6_look cX6_look 4 none rm_X6_look 3 := ⟨q_295, q_296, q_18, q_297, by decide +kernel, rfl, rfl⟩
set_option maxHeartbeats 4000000 in
set_option maxRecDepth 100000 in
theorem t_X6_volumeOf {z : SZ × Int} (hc : Cx p R s m args c D (tysWX g) A (WX a g) cX6_volumeOf 7 RX6 0 0) (hr : Rti p l e R s m args below meth c Q D A (WX a g) cX6_volumeOf (em z.1, Int32.ofInt z.2)) : ∀ (S : SZ) (v2 : Int) (v3 : Int), f_X6_volumeOf S v2 v3 = some z → Go p l e R s m args below meth c Q D A (WX a g) 7 (em S) 0 [(0, .ref (a 2)), (1, .ref (a 1)), (2, .int (Int32.ofInt v2)), (3, .int (Int32.ofInt v3))] [] := by
  obtain ⟨⟨hx, hb, hml, hown, hts⟩, -, -, -, hnf, hno⟩ := id hc
  intro S v2 v3 h H locs ls hP hS hl
  rw [f_X6_volumeOf] at h
  replace hl : lv_has ls 7 [(0, .ref (a 2)), (1, .ref (a 1)), (2, .int (Int32.ofInt v2)), (3, .int (Int32.ofInt v3))] := hl
  refine lv_aload_n hx hb dX6_volumeOf_0 rfl (lv_at hl 1 rfl) ?_
  refine gfWX_Mesh_x hc hP q_343 dX6_volumeOf_1 ?_
  refine lv_astore (lv' := [(4, .ref (a 9)), (0, .ref (a 2)), (1, .ref (a 1)), (2, .int (Int32.ofInt v2)), (3, .int (Int32.ofInt v3))]) hx hb dX6_volumeOf_4 hl (by decide) rfl (fun ls hl => ?_)
  refine lv_aload_n hx hb dX6_volumeOf_6 rfl (lv_at hl 2 rfl) ?_
  refine gfWX_Mesh_y hc hP q_344 dX6_volumeOf_7 ?_
  refine lv_astore (lv' := [(5, .ref (a 10)), (4, .ref (a 9)), (0, .ref (a 2)), (1, .ref (a 1)), (2, .int (Int32.ofInt v2)), (3, .int (Int32.ofInt v3))]) hx hb dX6_volumeOf_10 hl (by decide) rfl (fun ls hl => ?_)
  refine lv_aload_n hx hb dX6_volumeOf_12 rfl (lv_at hl 3 rfl) ?_
  refine gfWX_Mesh_z hc hP q_345 dX6_volumeOf_13 ?_
  refine lv_astore (lv' := [(6, .ref (a 11)), (5, .ref (a 10)), (4, .ref (a 9)), (0, .ref (a 2)), (1, .ref (a 1)), (2, .int (Int32.ofInt v2)), (3, .int (Int32.ofInt v3))]) hx hb dX6_volumeOf_16 hl (by decide) rfl (fun ls hl => ?_)
  refine lv_aload_n hx hb dX6_volumeOf_18 rfl (lv_at hl 3 rfl) ?_
  refine gzWX_Sight_a hc hP q_55 dX6_volumeOf_19 ?_
  refine lv_aload hx hb dX6_volumeOf_22 (lv_at hl 1 rfl) ?_
  refine lv_iload_n hx hb dX6_volumeOf_24 rfl (lv_at hl 5 rfl) ?_
  obtain ⟨h1, h⟩ := chk_at h
  refine azWX_Mesh_y hc hP h1 dX6_volumeOf_25 ?_
  refine lv_aload hx hb dX6_volumeOf_26 (lv_at hl 0 rfl) ?_
  refine lv_iload_n hx hb dX6_volumeOf_28 rfl (lv_at hl 6 rfl) ?_
  obtain ⟨h2, h⟩ := chk_at h
  refine azWX_Mesh_z hc hP h2 dX6_volumeOf_29 ?_
  refine z_imul hx hb dX6_volumeOf_30 ?_
  refine lv_aload hx hb dX6_volumeOf_31 (lv_at hl 0 rfl) ?_
  refine lv_iload_n hx hb dX6_volumeOf_33 rfl (lv_at hl 5 rfl) ?_
  refine azWX_Mesh_z hc hP h1 dX6_volumeOf_34 ?_
  refine lv_aload hx hb dX6_volumeOf_35 (lv_at hl 1 rfl) ?_
  refine lv_iload_n hx hb dX6_volumeOf_37 rfl (lv_at hl 6 rfl) ?_
  refine azWX_Mesh_y hc hP h2 dX6_volumeOf_38 ?_
  refine z_imul hx hb dX6_volumeOf_39 ?_
  refine z_isub hx hb dX6_volumeOf_40 ?_
  refine z_imul hx hb dX6_volumeOf_41 ?_
  refine lv_aload_n hx hb dX6_volumeOf_42 rfl (lv_at hl 3 rfl) ?_
  refine gzWX_Sight_b hc hP q_56 dX6_volumeOf_43 ?_
  refine lv_aload hx hb dX6_volumeOf_46 (lv_at hl 0 rfl) ?_
  refine lv_iload_n hx hb dX6_volumeOf_48 rfl (lv_at hl 5 rfl) ?_
  refine azWX_Mesh_z hc hP h1 dX6_volumeOf_49 ?_
  refine lv_aload hx hb dX6_volumeOf_50 (lv_at hl 2 rfl) ?_
  refine lv_iload_n hx hb dX6_volumeOf_52 rfl (lv_at hl 6 rfl) ?_
  refine azWX_Mesh_x hc hP h2 dX6_volumeOf_53 ?_
  refine z_imul hx hb dX6_volumeOf_54 ?_
  refine lv_aload hx hb dX6_volumeOf_55 (lv_at hl 2 rfl) ?_
  refine lv_iload_n hx hb dX6_volumeOf_57 rfl (lv_at hl 5 rfl) ?_
  refine azWX_Mesh_x hc hP h1 dX6_volumeOf_58 ?_
  refine lv_aload hx hb dX6_volumeOf_59 (lv_at hl 0 rfl) ?_
  refine lv_iload_n hx hb dX6_volumeOf_61 rfl (lv_at hl 6 rfl) ?_
  refine azWX_Mesh_z hc hP h2 dX6_volumeOf_62 ?_
  refine z_imul hx hb dX6_volumeOf_63 ?_
  refine z_isub hx hb dX6_volumeOf_64 ?_
  refine z_imul hx hb dX6_volumeOf_65 ?_
  refine z_iadd hx hb dX6_volumeOf_66 ?_
  refine lv_aload_n hx hb dX6_volumeOf_67 rfl (lv_at hl 3 rfl) ?_
  refine gzWX_Sight_c hc hP q_57 dX6_volumeOf_68 ?_
  refine lv_aload hx hb dX6_volumeOf_71 (lv_at hl 2 rfl) ?_
  refine lv_iload_n hx hb dX6_volumeOf_73 rfl (lv_at hl 5 rfl) ?_
  refine azWX_Mesh_x hc hP h1 dX6_volumeOf_74 ?_
  refine lv_aload hx hb dX6_volumeOf_75 (lv_at hl 1 rfl) ?_
  refine lv_iload_n hx hb dX6_volumeOf_77 rfl (lv_at hl 6 rfl) ?_
  refine azWX_Mesh_y hc hP h2 dX6_volumeOf_78 ?_
  refine z_imul hx hb dX6_volumeOf_79 ?_
  refine lv_aload hx hb dX6_volumeOf_80 (lv_at hl 1 rfl) ?_
  refine lv_iload_n hx hb dX6_volumeOf_82 rfl (lv_at hl 5 rfl) ?_
  refine azWX_Mesh_y hc hP h1 dX6_volumeOf_83 ?_
  refine lv_aload hx hb dX6_volumeOf_84 (lv_at hl 2 rfl) ?_
  refine lv_iload_n hx hb dX6_volumeOf_86 rfl (lv_at hl 6 rfl) ?_
  refine azWX_Mesh_x hc hP h2 dX6_volumeOf_87 ?_
  refine z_imul hx hb dX6_volumeOf_88 ?_
  refine z_isub hx hb dX6_volumeOf_89 ?_
  refine z_imul hx hb dX6_volumeOf_90 ?_
  refine z_iadd hx hb dX6_volumeOf_91 ?_
  obtain rfl := Option.some.inj h
  exact hr _ _ _ _ dX6_volumeOf_92 hP hS
abbrev rm_X6_volumeOf : Room := { frames := 0, cells := 0, slots := 0, locals := 0 }
theorem c_X6_volumeOf {l : Launch} {D : va_G} {a : Nat → Nat} {g : Nat → ClassId} {S : SZ} {v2 : Int} {v3 : Int} {Z1 : SZ} {r1 : Int} (h : f_X6_volumeOf S v2 v3 = some (Z1, r1)) : MetI l D (tysWX g) (WX a g) E0 yX6_volumeOf cX6_volumeOf 7 (some .int) rm_X6_volumeOf [.ref (a 2), .ref (a 1), .int (Int32.ofInt v2), .int (Int32.ofInt v3)] (em S) (em Z1, Int32.ofInt r1) := mk_i (WX_same a g) (by decide) (em Z1, Int32.ofInt r1) (Nat.le_of_ble_eq_true rfl) (fun p e s m args below meth c A Q hc hE hr => t_X6_volumeOf (z := (Z1, r1)) hc hr S v2 v3 h)
theorem k_X6_volumeOf : CalV RX6 yX6_volumeOf cX6_volumeOf 7 (some .int) rm_X6_volumeOf 3 := ⟨q_347, q_348, q_18, q_349, by decide +kernel, rfl, rfl⟩
set_option maxHeartbeats 4000000 in
set_option maxRecDepth 100000 in
theorem t_X6_fillNormal {z : SZ} (hc : Cx p R s m args c D (tysWX g) A (WX a g) cX6_fillNormal 6 RX6 1 24) (hr : Rtv p l e R s m args below meth c Q D A (WX a g) cX6_fillNormal (em z)) : ∀ (S : SZ) (v2 : Int), f_X6_fillNormal S v2 = some z → Go p l e R s m args below meth c Q D A (WX a g) 6 (em S) 0 [(0, .ref (a 2)), (1, .ref (a 1)), (2, .int (Int32.ofInt v2))] [] := by
  obtain ⟨⟨hx, hb, hml, hown, hts⟩, -, -, -, hnf, hno⟩ := id hc
  intro S v2 h H locs ls hP hS hl
  rw [f_X6_fillNormal] at h
  replace hl : lv_has ls 6 [(0, .ref (a 2)), (1, .ref (a 1)), (2, .int (Int32.ofInt v2))] := hl
  refine lv_aload_n hx hb dX6_fillNormal_0 rfl (lv_at hl 1 rfl) ?_
  refine lv_iload_n hx hb dX6_fillNormal_1 rfl (lv_at hl 2 rfl) ?_
  refine lv_iconst (v := Int32.ofInt (0 : Int)) hx hb dX6_fillNormal_2 (by decide) ?_
  obtain ⟨S1, x3, hk2, h⟩ := ob2_at h
  refine cl_Vi (As := [.int (Int32.ofInt v2), .int (Int32.ofInt (0 : Int))]) (rest := []) hc k_X4_cornerOf q_354 (c_X4_cornerOf hk2) hP hS (WX_1 a g (em S)) rfl rfl rfl hl (Nat.le_of_ble_eq_true rfl) dX6_fillNormal_3 (Nat.le_of_ble_eq_true rfl) (Nat.le_of_ble_eq_true rfl) rfl (fun H locs hP hS => ?_)
  refine lv_istore_n (lv' := [(3, .int (Int32.ofInt x3)), (0, .ref (a 2)), (1, .ref (a 1)), (2, .int (Int32.ofInt v2))]) hx hb dX6_fillNormal_6 rfl hl (by decide) rfl (fun ls hl => ?_)
  refine lv_aload_n hx hb dX6_fillNormal_7 rfl (lv_at hl 2 rfl) ?_
  refine lv_iload_n hx hb dX6_fillNormal_8 rfl (lv_at hl 3 rfl) ?_
  refine lv_iconst (v := Int32.ofInt (1 : Int)) hx hb dX6_fillNormal_9 (by decide) ?_
  obtain ⟨S4, x6, hk5, h⟩ := ob2_at h
  refine cl_Vi (As := [.int (Int32.ofInt v2), .int (Int32.ofInt (1 : Int))]) (rest := []) hc k_X4_cornerOf q_354 (c_X4_cornerOf hk5) hP hS (WX_1 a g (em S1)) rfl rfl rfl hl (Nat.le_of_ble_eq_true rfl) dX6_fillNormal_10 (Nat.le_of_ble_eq_true rfl) (Nat.le_of_ble_eq_true rfl) rfl (fun H locs hP hS => ?_)
  refine lv_istore (lv' := [(4, .int (Int32.ofInt x6)), (3, .int (Int32.ofInt x3)), (0, .ref (a 2)), (1, .ref (a 1)), (2, .int (Int32.ofInt v2))]) hx hb dX6_fillNormal_13 hl (by decide) rfl (fun ls hl => ?_)
  refine lv_aload_n hx hb dX6_fillNormal_15 rfl (lv_at hl 3 rfl) ?_
  refine lv_iload_n hx hb dX6_fillNormal_16 rfl (lv_at hl 4 rfl) ?_
  refine lv_iconst (v := Int32.ofInt (2 : Int)) hx hb dX6_fillNormal_17 (by decide) ?_
  obtain ⟨S7, x9, hk8, h⟩ := ob2_at h
  refine cl_Vi (As := [.int (Int32.ofInt v2), .int (Int32.ofInt (2 : Int))]) (rest := []) hc k_X4_cornerOf q_354 (c_X4_cornerOf hk8) hP hS (WX_1 a g (em S4)) rfl rfl rfl hl (Nat.le_of_ble_eq_true rfl) dX6_fillNormal_18 (Nat.le_of_ble_eq_true rfl) (Nat.le_of_ble_eq_true rfl) rfl (fun H locs hP hS => ?_)
  refine lv_istore (lv' := [(5, .int (Int32.ofInt x9)), (4, .int (Int32.ofInt x6)), (3, .int (Int32.ofInt x3)), (0, .ref (a 2)), (1, .ref (a 1)), (2, .int (Int32.ofInt v2))]) hx hb dX6_fillNormal_21 hl (by decide) rfl (fun ls hl => ?_)
  refine lv_aload_n hx hb dX6_fillNormal_23 rfl (lv_at hl 3 rfl) ?_
  refine gfWX_Sight_normal hc hP q_59 dX6_fillNormal_24 ?_
  refine lv_iconst (v := Int32.ofInt (3 : Int)) hx hb dX6_fillNormal_27 (by decide) ?_
  refine lv_iload_n hx hb dX6_fillNormal_28 rfl (lv_at hl 5 rfl) ?_
  refine z_imul hx hb dX6_fillNormal_29 ?_
  refine lv_aload_n hx hb dX6_fillNormal_30 rfl (lv_at hl 4 rfl) ?_
  refine gfWX_Mesh_y hc hP q_344 dX6_fillNormal_31 ?_
  refine lv_aload_n hx hb dX6_fillNormal_34 rfl (lv_at hl 4 rfl) ?_
  refine gfWX_Mesh_z hc hP q_345 dX6_fillNormal_35 ?_
  refine lv_iload_n hx hb dX6_fillNormal_38 rfl (lv_at hl 2 rfl) ?_
  refine lv_iload hx hb dX6_fillNormal_39 (lv_at hl 1 rfl) ?_
  refine lv_iload hx hb dX6_fillNormal_41 (lv_at hl 0 rfl) ?_
  obtain ⟨S10, x12, hk11, h⟩ := ob2_at h
  refine cl_Si (As := [.ref (a 10), .ref (a 11), .int (Int32.ofInt x3), .int (Int32.ofInt x6), .int (Int32.ofInt x9)]) (rest := [.int (Int32.ofInt ((3 : Int) * v2)), .ref (a 15)]) hc k_X4_area_y_z q_355 (c_X4_area_y_z hk11) hP hS rfl hl (Nat.le_of_ble_eq_true rfl) dX6_fillNormal_43 (Nat.le_of_ble_eq_true rfl) (Nat.le_of_ble_eq_true rfl) rfl (fun H locs hP hS => ?_)
  obtain ⟨h13, h⟩ := chk_at h
  refine szWX_Sight_normal hc hP hS h13 dX6_fillNormal_46 (fun H locs hP hS => ?_)
  obtain ⟨S14, eS14⟩ : ∃ z, z = ua S10 7 (((3 : Int) * v2)).toNat x12 := ⟨_, rfl⟩
  replace h := olet_at eS14 h
  rw [← eS14] at hP
  refine lv_aload_n hx hb dX6_fillNormal_47 rfl (lv_at hl 3 rfl) ?_
  refine gfWX_Sight_normal hc hP q_59 dX6_fillNormal_48 ?_
  refine lv_iconst (v := Int32.ofInt (3 : Int)) hx hb dX6_fillNormal_51 (by decide) ?_
  refine lv_iload_n hx hb dX6_fillNormal_52 rfl (lv_at hl 5 rfl) ?_
  refine z_imul hx hb dX6_fillNormal_53 ?_
  refine lv_iconst (v := Int32.ofInt (1 : Int)) hx hb dX6_fillNormal_54 (by decide) ?_
  refine z_iadd hx hb dX6_fillNormal_55 ?_
  refine lv_aload_n hx hb dX6_fillNormal_56 rfl (lv_at hl 4 rfl) ?_
  refine gfWX_Mesh_z hc hP q_345 dX6_fillNormal_57 ?_
  refine lv_aload_n hx hb dX6_fillNormal_60 rfl (lv_at hl 4 rfl) ?_
  refine gfWX_Mesh_x hc hP q_343 dX6_fillNormal_61 ?_
  refine lv_iload_n hx hb dX6_fillNormal_64 rfl (lv_at hl 2 rfl) ?_
  refine lv_iload hx hb dX6_fillNormal_65 (lv_at hl 1 rfl) ?_
  refine lv_iload hx hb dX6_fillNormal_67 (lv_at hl 0 rfl) ?_
  obtain ⟨S15, x17, hk16, h⟩ := ob2_at h
  refine cl_Si (As := [.ref (a 11), .ref (a 9), .int (Int32.ofInt x3), .int (Int32.ofInt x6), .int (Int32.ofInt x9)]) (rest := [.int (Int32.ofInt (((3 : Int) * v2) + (1 : Int))), .ref (a 15)]) hc k_X4_area_z_x q_355 (c_X4_area_z_x hk16) hP hS rfl hl (Nat.le_of_ble_eq_true rfl) dX6_fillNormal_69 (Nat.le_of_ble_eq_true rfl) (Nat.le_of_ble_eq_true rfl) rfl (fun H locs hP hS => ?_)
  obtain ⟨h18, h⟩ := chk_at h
  refine szWX_Sight_normal hc hP hS h18 dX6_fillNormal_72 (fun H locs hP hS => ?_)
  obtain ⟨S19, eS19⟩ : ∃ z, z = ua S15 7 ((((3 : Int) * v2) + (1 : Int))).toNat x17 := ⟨_, rfl⟩
  replace h := olet_at eS19 h
  rw [← eS19] at hP
  refine lv_aload_n hx hb dX6_fillNormal_73 rfl (lv_at hl 3 rfl) ?_
  refine gfWX_Sight_normal hc hP q_59 dX6_fillNormal_74 ?_
  refine lv_iconst (v := Int32.ofInt (3 : Int)) hx hb dX6_fillNormal_77 (by decide) ?_
  refine lv_iload_n hx hb dX6_fillNormal_78 rfl (lv_at hl 5 rfl) ?_
  refine z_imul hx hb dX6_fillNormal_79 ?_
  refine lv_iconst (v := Int32.ofInt (2 : Int)) hx hb dX6_fillNormal_80 (by decide) ?_
  refine z_iadd hx hb dX6_fillNormal_81 ?_
  refine lv_aload_n hx hb dX6_fillNormal_82 rfl (lv_at hl 4 rfl) ?_
  refine gfWX_Mesh_x hc hP q_343 dX6_fillNormal_83 ?_
  refine lv_aload_n hx hb dX6_fillNormal_86 rfl (lv_at hl 4 rfl) ?_
  refine gfWX_Mesh_y hc hP q_344 dX6_fillNormal_87 ?_
  refine lv_iload_n hx hb dX6_fillNormal_90 rfl (lv_at hl 2 rfl) ?_
  refine lv_iload hx hb dX6_fillNormal_91 (lv_at hl 1 rfl) ?_
  refine lv_iload hx hb dX6_fillNormal_93 (lv_at hl 0 rfl) ?_
  obtain ⟨S20, x22, hk21, h⟩ := ob2_at h
  refine cl_Si (As := [.ref (a 9), .ref (a 10), .int (Int32.ofInt x3), .int (Int32.ofInt x6), .int (Int32.ofInt x9)]) (rest := [.int (Int32.ofInt (((3 : Int) * v2) + (2 : Int))), .ref (a 15)]) hc k_X4_area_x_y q_355 (c_X4_area_x_y hk21) hP hS rfl hl (Nat.le_of_ble_eq_true rfl) dX6_fillNormal_95 (Nat.le_of_ble_eq_true rfl) (Nat.le_of_ble_eq_true rfl) rfl (fun H locs hP hS => ?_)
  obtain ⟨h23, h⟩ := chk_at h
  refine szWX_Sight_normal hc hP hS h23 dX6_fillNormal_98 (fun H locs hP hS => ?_)
  obtain ⟨S24, eS24⟩ : ∃ z, z = ua S20 7 ((((3 : Int) * v2) + (2 : Int))).toNat x22 := ⟨_, rfl⟩
  replace h := olet_at eS24 h
  rw [← eS24] at hP
  obtain rfl := Option.some.inj h
  exact hr _ _ _ _ dX6_fillNormal_99 hP hS
abbrev rm_X6_fillNormal : Room := { frames := 1, cells := 0, slots := 0, locals := 24 }
theorem c_X6_fillNormal {l : Launch} {D : va_G} {a : Nat → Nat} {g : Nat → ClassId} {S : SZ} {v2 : Int} {z : SZ} (h : f_X6_fillNormal S v2 = some z) : MetV l D (tysWX g) (WX a g) E0 yX6_fillNormal cX6_fillNormal 6 none rm_X6_fillNormal [.ref (a 2), .ref (a 1), .int (Int32.ofInt v2)] (em S) (em z) := mk_v (WX_same a g) (by decide) (em z) (Nat.le_of_ble_eq_true rfl) (fun p e s m args below meth c A Q hc hE hr => t_X6_fillNormal (z := z) hc hr S v2 h)
theorem k_X6_fillNormal : CalV RX6 yX6_fillNormal cX6_fillNormal 6 none rm_X6_fillNormal 2 := ⟨q_351, q_352, q_18, q_353, by decide +kernel, rfl, rfl⟩
set_option maxHeartbeats 4000000 in
set_option maxRecDepth 100000 in
theorem t_X6_turnOf {z : SZ × Int} (hc : Cx p R s m args c D (tysWX g) A (WX a g) cX6_turnOf 4 RX6 0 0) (hr : Rti p l e R s m args below meth c Q D A (WX a g) cX6_turnOf (em z.1, Int32.ofInt z.2)) : ∀ (S : SZ) (v1 : Int) (v2 : Int) (v3 : Int), f_X6_turnOf S v1 v2 v3 = some z → Go p l e R s m args below meth c Q D A (WX a g) 4 (em S) 0 [(0, .ref (a 2)), (1, .int (Int32.ofInt v1)), (2, .int (Int32.ofInt v2)), (3, .int (Int32.ofInt v3))] [] := by
  obtain ⟨⟨hx, hb, hml, hown, hts⟩, -, -, -, hnf, hno⟩ := id hc
  intro S v1 v2 v3 h H locs ls hP hS hl
  rw [f_X6_turnOf] at h
  replace hl : lv_has ls 4 [(0, .ref (a 2)), (1, .int (Int32.ofInt v1)), (2, .int (Int32.ofInt v2)), (3, .int (Int32.ofInt v3))] := hl
  refine lv_aload_n hx hb dX6_turnOf_0 rfl (lv_at hl 0 rfl) ?_
  refine gfWX_Sight_sweep hc hP q_58 dX6_turnOf_1 ?_
  refine lv_iload_n hx hb dX6_turnOf_4 rfl (lv_at hl 1 rfl) ?_
  refine lv_bipush (v := Int32.ofInt (16 : Int)) hx hb dX6_turnOf_5 (by decide) ?_
  refine z_imul hx hb dX6_turnOf_7 ?_
  refine lv_iload_n hx hb dX6_turnOf_8 rfl (lv_at hl 2 rfl) ?_
  refine z_iadd hx hb dX6_turnOf_9 ?_
  obtain ⟨h1, h⟩ := chk_at h
  refine azWX_Sight_sweep hc hP h1 dX6_turnOf_10 ?_
  refine lv_aload_n hx hb dX6_turnOf_11 rfl (lv_at hl 0 rfl) ?_
  refine gfWX_Sight_sweep hc hP q_58 dX6_turnOf_12 ?_
  refine lv_iload_n hx hb dX6_turnOf_15 rfl (lv_at hl 2 rfl) ?_
  refine lv_bipush (v := Int32.ofInt (16 : Int)) hx hb dX6_turnOf_16 (by decide) ?_
  refine z_imul hx hb dX6_turnOf_18 ?_
  refine lv_iload_n hx hb dX6_turnOf_19 rfl (lv_at hl 3 rfl) ?_
  refine z_iadd hx hb dX6_turnOf_20 ?_
  obtain ⟨h2, h⟩ := chk_at h
  refine azWX_Sight_sweep hc hP h2 dX6_turnOf_21 ?_
  refine z_iadd hx hb dX6_turnOf_22 ?_
  refine lv_aload_n hx hb dX6_turnOf_23 rfl (lv_at hl 0 rfl) ?_
  refine gfWX_Sight_sweep hc hP q_58 dX6_turnOf_24 ?_
  refine lv_iload_n hx hb dX6_turnOf_27 rfl (lv_at hl 3 rfl) ?_
  refine lv_bipush (v := Int32.ofInt (16 : Int)) hx hb dX6_turnOf_28 (by decide) ?_
  refine z_imul hx hb dX6_turnOf_30 ?_
  refine lv_iload_n hx hb dX6_turnOf_31 rfl (lv_at hl 1 rfl) ?_
  refine z_iadd hx hb dX6_turnOf_32 ?_
  obtain ⟨h3, h⟩ := chk_at h
  refine azWX_Sight_sweep hc hP h3 dX6_turnOf_33 ?_
  refine z_iadd hx hb dX6_turnOf_34 ?_
  obtain rfl := Option.some.inj h
  exact hr _ _ _ _ dX6_turnOf_35 hP hS
abbrev rm_X6_turnOf : Room := { frames := 0, cells := 0, slots := 0, locals := 0 }
theorem c_X6_turnOf {l : Launch} {D : va_G} {a : Nat → Nat} {g : Nat → ClassId} {S : SZ} {v1 : Int} {v2 : Int} {v3 : Int} {Z1 : SZ} {r1 : Int} (h : f_X6_turnOf S v1 v2 v3 = some (Z1, r1)) : MetI l D (tysWX g) (WX a g) E0 yX6_turnOf cX6_turnOf 4 (some .int) rm_X6_turnOf [.ref (a 2), .int (Int32.ofInt v1), .int (Int32.ofInt v2), .int (Int32.ofInt v3)] (em S) (em Z1, Int32.ofInt r1) := mk_i (WX_same a g) (by decide) (em Z1, Int32.ofInt r1) (Nat.le_of_ble_eq_true rfl) (fun p e s m args below meth c A Q hc hE hr => t_X6_turnOf (z := (Z1, r1)) hc hr S v1 v2 v3 h)
theorem k_X6_turnOf : CalV RX6 yX6_turnOf cX6_turnOf 4 (some .int) rm_X6_turnOf 3 := ⟨q_357, q_358, q_18, q_359, by decide +kernel, rfl, rfl⟩
set_option maxHeartbeats 4000000 in
set_option maxRecDepth 100000 in
theorem t_X6_rowOf {z : SZ × Int} (hc : Cx p R s m args c D (tysWX g) A (WX a g) cX6_rowOf 2 RX6 0 0) (hr : Rti p l e R s m args below meth c Q D A (WX a g) cX6_rowOf (em z.1, Int32.ofInt z.2)) : ∀ (S : SZ) (v0 : Int) (v1 : Int), f_X6_rowOf S v0 v1 = some z → Go p l e R s m args below meth c Q D A (WX a g) 2 (em S) 0 [(0, .int (Int32.ofInt v0)), (1, .int (Int32.ofInt v1))] [] := by
  obtain ⟨⟨hx, hb, hml, hown, hts⟩, -, -, -, hnf, hno⟩ := id hc
  intro S v0 v1 h H locs ls hP hS hl
  rw [f_X6_rowOf] at h
  replace hl : lv_has ls 2 [(0, .int (Int32.ofInt v0)), (1, .int (Int32.ofInt v1))] := hl
  refine lv_iconst (v := Int32.ofInt (4 : Int)) hx hb dX6_rowOf_0 (by decide) ?_
  refine lv_iload_n hx hb dX6_rowOf_1 rfl (lv_at hl 0 rfl) ?_
  refine lv_bipush (v := Int32.ofInt (16 : Int)) hx hb dX6_rowOf_2 (by decide) ?_
  refine z_imul hx hb dX6_rowOf_4 ?_
  refine lv_iload_n hx hb dX6_rowOf_5 rfl (lv_at hl 1 rfl) ?_
  refine z_iadd hx hb dX6_rowOf_6 ?_
  refine z_imul hx hb dX6_rowOf_7 ?_
  obtain rfl := Option.some.inj h
  exact hr _ _ _ _ dX6_rowOf_8 hP hS
abbrev rm_X6_rowOf : Room := { frames := 0, cells := 0, slots := 0, locals := 0 }
theorem c_X6_rowOf {l : Launch} {D : va_G} {a : Nat → Nat} {g : Nat → ClassId} {S : SZ} {v0 : Int} {v1 : Int} {Z1 : SZ} {r1 : Int} (h : f_X6_rowOf S v0 v1 = some (Z1, r1)) : MetI l D (tysWX g) (WX a g) E0 yX6_rowOf cX6_rowOf 2 (some .int) rm_X6_rowOf [.int (Int32.ofInt v0), .int (Int32.ofInt v1)] (em S) (em Z1, Int32.ofInt r1) := mk_i (WX_same a g) (by decide) (em Z1, Int32.ofInt r1) (Nat.le_of_ble_eq_true rfl) (fun p e s m args below meth c A Q hc hE hr => t_X6_rowOf (z := (Z1, r1)) hc hr S v0 v1 h)
theorem k_X6_rowOf : CalS yX6_rowOf cX6_rowOf 2 (some .int) rm_X6_rowOf 2 := ⟨q_365, q_18, q_366, by decide +kernel, rfl, rfl⟩
set_option maxHeartbeats 4000000 in
set_option maxRecDepth 100000 in
theorem t_X6_depth {z : SZ × Int} (hc : Cx p R s m args c D (tysWX g) A (WX a g) cX6_depth 5 RX6 1 22) (hr : Rti p l e R s m args below meth c Q D A (WX a g) cX6_depth (em z.1, Int32.ofInt z.2)) : ∀ (S : SZ) (v2 : Int) (v3 : Int), f_X6_depth S v2 v3 = some z → Go p l e R s m args below meth c Q D A (WX a g) 5 (em S) 0 [(0, .ref (a 2)), (1, .ref (a 1)), (2, .int (Int32.ofInt v2)), (3, .int (Int32.ofInt v3))] [] := by
  obtain ⟨⟨hx, hb, hml, hown, hts⟩, -, -, -, hnf, hno⟩ := id hc
  intro S v2 v3 h H locs ls hP hS hl
  rw [f_X6_depth] at h
  replace hl : lv_has ls 5 [(0, .ref (a 2)), (1, .ref (a 1)), (2, .int (Int32.ofInt v2)), (3, .int (Int32.ofInt v3))] := hl
  refine lv_aload_n hx hb dX6_depth_0 rfl (lv_at hl 1 rfl) ?_
  refine lv_iload_n hx hb dX6_depth_1 rfl (lv_at hl 2 rfl) ?_
  refine lv_iconst (v := Int32.ofInt (0 : Int)) hx hb dX6_depth_2 (by decide) ?_
  obtain ⟨S1, x3, hk2, h⟩ := ob2_at h
  refine cl_Vi (As := [.int (Int32.ofInt v2), .int (Int32.ofInt (0 : Int))]) (rest := []) hc k_X4_cornerOf q_354 (c_X4_cornerOf hk2) hP hS (WX_1 a g (em S)) rfl rfl rfl hl (Nat.le_of_ble_eq_true rfl) dX6_depth_3 (Nat.le_of_ble_eq_true rfl) (Nat.le_of_ble_eq_true rfl) rfl (fun H locs hP hS => ?_)
  refine lv_istore (lv' := [(4, .int (Int32.ofInt x3)), (0, .ref (a 2)), (1, .ref (a 1)), (2, .int (Int32.ofInt v2)), (3, .int (Int32.ofInt v3))]) hx hb dX6_depth_6 hl (by decide) rfl (fun ls hl => ?_)
  refine lv_aload_n hx hb dX6_depth_8 rfl (lv_at hl 1 rfl) ?_
  refine gfWX_Sight_normal hc hP q_59 dX6_depth_9 ?_
  refine lv_iconst (v := Int32.ofInt (3 : Int)) hx hb dX6_depth_12 (by decide) ?_
  refine lv_iload_n hx hb dX6_depth_13 rfl (lv_at hl 3 rfl) ?_
  refine z_imul hx hb dX6_depth_14 ?_
  obtain ⟨h4, h⟩ := chk_at h
  refine azWX_Sight_normal hc hP h4 dX6_depth_15 ?_
  refine lv_aload_n hx hb dX6_depth_16 rfl (lv_at hl 2 rfl) ?_
  refine gfWX_Mesh_x hc hP q_343 dX6_depth_17 ?_
  refine lv_iload hx hb dX6_depth_20 (lv_at hl 0 rfl) ?_
  obtain ⟨h5, h⟩ := chk_at h
  refine azWX_Mesh_x hc hP h5 dX6_depth_22 ?_
  refine lv_aload_n hx hb dX6_depth_23 rfl (lv_at hl 2 rfl) ?_
  refine gfWX_Mesh_x hc hP q_343 dX6_depth_24 ?_
  refine lv_iload_n hx hb dX6_depth_27 rfl (lv_at hl 4 rfl) ?_
  obtain ⟨h6, h⟩ := chk_at h
  refine azWX_Mesh_x hc hP h6 dX6_depth_28 ?_
  refine z_isub hx hb dX6_depth_29 ?_
  refine z_imul hx hb dX6_depth_30 ?_
  refine lv_aload_n hx hb dX6_depth_31 rfl (lv_at hl 1 rfl) ?_
  refine gfWX_Sight_normal hc hP q_59 dX6_depth_32 ?_
  refine lv_iconst (v := Int32.ofInt (3 : Int)) hx hb dX6_depth_35 (by decide) ?_
  refine lv_iload_n hx hb dX6_depth_36 rfl (lv_at hl 3 rfl) ?_
  refine z_imul hx hb dX6_depth_37 ?_
  refine lv_iconst (v := Int32.ofInt (1 : Int)) hx hb dX6_depth_38 (by decide) ?_
  refine z_iadd hx hb dX6_depth_39 ?_
  obtain ⟨h7, h⟩ := chk_at h
  refine azWX_Sight_normal hc hP h7 dX6_depth_40 ?_
  refine lv_aload_n hx hb dX6_depth_41 rfl (lv_at hl 2 rfl) ?_
  refine gfWX_Mesh_y hc hP q_344 dX6_depth_42 ?_
  refine lv_iload hx hb dX6_depth_45 (lv_at hl 0 rfl) ?_
  refine azWX_Mesh_y hc hP h5 dX6_depth_47 ?_
  refine lv_aload_n hx hb dX6_depth_48 rfl (lv_at hl 2 rfl) ?_
  refine gfWX_Mesh_y hc hP q_344 dX6_depth_49 ?_
  refine lv_iload_n hx hb dX6_depth_52 rfl (lv_at hl 4 rfl) ?_
  refine azWX_Mesh_y hc hP h6 dX6_depth_53 ?_
  refine z_isub hx hb dX6_depth_54 ?_
  refine z_imul hx hb dX6_depth_55 ?_
  refine z_iadd hx hb dX6_depth_56 ?_
  refine lv_aload_n hx hb dX6_depth_57 rfl (lv_at hl 1 rfl) ?_
  refine gfWX_Sight_normal hc hP q_59 dX6_depth_58 ?_
  refine lv_iconst (v := Int32.ofInt (3 : Int)) hx hb dX6_depth_61 (by decide) ?_
  refine lv_iload_n hx hb dX6_depth_62 rfl (lv_at hl 3 rfl) ?_
  refine z_imul hx hb dX6_depth_63 ?_
  refine lv_iconst (v := Int32.ofInt (2 : Int)) hx hb dX6_depth_64 (by decide) ?_
  refine z_iadd hx hb dX6_depth_65 ?_
  obtain ⟨h8, h⟩ := chk_at h
  refine azWX_Sight_normal hc hP h8 dX6_depth_66 ?_
  refine lv_aload_n hx hb dX6_depth_67 rfl (lv_at hl 2 rfl) ?_
  refine gfWX_Mesh_z hc hP q_345 dX6_depth_68 ?_
  refine lv_iload hx hb dX6_depth_71 (lv_at hl 0 rfl) ?_
  refine azWX_Mesh_z hc hP h5 dX6_depth_73 ?_
  refine lv_aload_n hx hb dX6_depth_74 rfl (lv_at hl 2 rfl) ?_
  refine gfWX_Mesh_z hc hP q_345 dX6_depth_75 ?_
  refine lv_iload_n hx hb dX6_depth_78 rfl (lv_at hl 4 rfl) ?_
  refine azWX_Mesh_z hc hP h6 dX6_depth_79 ?_
  refine z_isub hx hb dX6_depth_80 ?_
  refine z_imul hx hb dX6_depth_81 ?_
  refine z_iadd hx hb dX6_depth_82 ?_
  obtain rfl := Option.some.inj h
  exact hr _ _ _ _ dX6_depth_83 hP hS
abbrev rm_X6_depth : Room := { frames := 1, cells := 0, slots := 0, locals := 22 }
theorem c_X6_depth {l : Launch} {D : va_G} {a : Nat → Nat} {g : Nat → ClassId} {S : SZ} {v2 : Int} {v3 : Int} {Z1 : SZ} {r1 : Int} (h : f_X6_depth S v2 v3 = some (Z1, r1)) : MetI l D (tysWX g) (WX a g) E0 yX6_depth cX6_depth 5 (some .int) rm_X6_depth [.ref (a 2), .ref (a 1), .int (Int32.ofInt v2), .int (Int32.ofInt v3)] (em S) (em Z1, Int32.ofInt r1) := mk_i (WX_same a g) (by decide) (em Z1, Int32.ofInt r1) (Nat.le_of_ble_eq_true rfl) (fun p e s m args below meth c A Q hc hE hr => t_X6_depth (z := (Z1, r1)) hc hr S v2 v3 h)
theorem k_X6_depth : CalV RX6 yX6_depth cX6_depth 5 (some .int) rm_X6_depth 3 := ⟨q_368, q_369, q_18, q_370, by decide +kernel, rfl, rfl⟩
set_option maxHeartbeats 4000000 in
set_option maxRecDepth 100000 in
theorem t_X6_fillMargins_p27 {z : SZ} (hc : Cx p R s m args c D (tysWX g) A (WX a g) cX6_fillMargins 9 RX6 2 46) (hr : Rtv p l e R s m args below meth c Q D A (WX a g) cX6_fillMargins (em z)) : ∀ (S : SZ) (v2 : Int) (v3 : Int) (s0 : Int), f_X6_fillMargins_p27 S v2 v3 s0 = some z → Go p l e R s m args below meth c Q D A (WX a g) 9 (em S) 27 [(0, .ref (a 2)), (1, .ref (a 1)), (2, .int (Int32.ofInt v2)), (3, .int (Int32.ofInt v3))] [.int (Int32.ofInt s0)] := by
  obtain ⟨⟨hx, hb, hml, hown, hts⟩, -, -, -, hnf, hno⟩ := id hc
  intro S v2 v3 s0 h H locs ls hP hS hl
  rw [f_X6_fillMargins_p27] at h
  refine lv_istore (lv' := [(4, .int (Int32.ofInt s0)), (0, .ref (a 2)), (1, .ref (a 1)), (2, .int (Int32.ofInt v2)), (3, .int (Int32.ofInt v3))]) hx hb dX6_fillMargins_27 hl (by decide) rfl (fun ls hl => ?_)
  refine lv_aload_n hx hb dX6_fillMargins_29 rfl (lv_at hl 2 rfl) ?_
  refine lv_iload_n hx hb dX6_fillMargins_30 rfl (lv_at hl 3 rfl) ?_
  refine lv_iconst (v := Int32.ofInt (0 : Int)) hx hb dX6_fillMargins_31 (by decide) ?_
  obtain ⟨S1, x3, hk2, h⟩ := ob2_at h
  refine cl_Vi (As := [.int (Int32.ofInt v2), .int (Int32.ofInt (0 : Int))]) (rest := []) hc k_X4_cornerOf q_354 (c_X4_cornerOf hk2) hP hS (WX_1 a g (em S)) rfl rfl rfl hl (Nat.le_of_ble_eq_true rfl) dX6_fillMargins_32 (Nat.le_of_ble_eq_true rfl) (Nat.le_of_ble_eq_true rfl) rfl (fun H locs hP hS => ?_)
  refine lv_istore (lv' := [(5, .int (Int32.ofInt x3)), (4, .int (Int32.ofInt s0)), (0, .ref (a 2)), (1, .ref (a 1)), (2, .int (Int32.ofInt v2)), (3, .int (Int32.ofInt v3))]) hx hb dX6_fillMargins_35 hl (by decide) rfl (fun ls hl => ?_)
  refine lv_aload_n hx hb dX6_fillMargins_37 rfl (lv_at hl 3 rfl) ?_
  refine lv_iload_n hx hb dX6_fillMargins_38 rfl (lv_at hl 4 rfl) ?_
  refine lv_iconst (v := Int32.ofInt (1 : Int)) hx hb dX6_fillMargins_39 (by decide) ?_
  obtain ⟨S4, x6, hk5, h⟩ := ob2_at h
  refine cl_Vi (As := [.int (Int32.ofInt v2), .int (Int32.ofInt (1 : Int))]) (rest := []) hc k_X4_cornerOf q_354 (c_X4_cornerOf hk5) hP hS (WX_1 a g (em S1)) rfl rfl rfl hl (Nat.le_of_ble_eq_true rfl) dX6_fillMargins_40 (Nat.le_of_ble_eq_true rfl) (Nat.le_of_ble_eq_true rfl) rfl (fun H locs hP hS => ?_)
  refine lv_istore (lv' := [(6, .int (Int32.ofInt x6)), (5, .int (Int32.ofInt x3)), (4, .int (Int32.ofInt s0)), (0, .ref (a 2)), (1, .ref (a 1)), (2, .int (Int32.ofInt v2)), (3, .int (Int32.ofInt v3))]) hx hb dX6_fillMargins_43 hl (by decide) rfl (fun ls hl => ?_)
  refine lv_aload_n hx hb dX6_fillMargins_45 rfl (lv_at hl 4 rfl) ?_
  refine lv_iload_n hx hb dX6_fillMargins_46 rfl (lv_at hl 5 rfl) ?_
  refine lv_iconst (v := Int32.ofInt (2 : Int)) hx hb dX6_fillMargins_47 (by decide) ?_
  obtain ⟨S7, x9, hk8, h⟩ := ob2_at h
  refine cl_Vi (As := [.int (Int32.ofInt v2), .int (Int32.ofInt (2 : Int))]) (rest := []) hc k_X4_cornerOf q_354 (c_X4_cornerOf hk8) hP hS (WX_1 a g (em S4)) rfl rfl rfl hl (Nat.le_of_ble_eq_true rfl) dX6_fillMargins_48 (Nat.le_of_ble_eq_true rfl) (Nat.le_of_ble_eq_true rfl) rfl (fun H locs hP hS => ?_)
  refine lv_istore (lv' := [(7, .int (Int32.ofInt x9)), (6, .int (Int32.ofInt x6)), (5, .int (Int32.ofInt x3)), (4, .int (Int32.ofInt s0)), (0, .ref (a 2)), (1, .ref (a 1)), (2, .int (Int32.ofInt v2)), (3, .int (Int32.ofInt v3))]) hx hb dX6_fillMargins_51 hl (by decide) rfl (fun ls hl => ?_)
  refine lv_iload_n hx hb dX6_fillMargins_53 rfl (lv_at hl 6 rfl) ?_
  refine lv_iload_n hx hb dX6_fillMargins_54 rfl (lv_at hl 7 rfl) ?_
  obtain ⟨S10, x12, hk11, h⟩ := ob2_at h
  refine cl_Si (As := [.int (Int32.ofInt v2), .int (Int32.ofInt v3)]) (rest := []) hc k_X6_rowOf q_364 (c_X6_rowOf hk11) hP hS rfl hl (Nat.le_of_ble_eq_true rfl) dX6_fillMargins_55 (Nat.le_of_ble_eq_true rfl) (Nat.le_of_ble_eq_true rfl) rfl (fun H locs hP hS => ?_)
  refine lv_istore (lv' := [(8, .int (Int32.ofInt x12)), (7, .int (Int32.ofInt x9)), (6, .int (Int32.ofInt x6)), (5, .int (Int32.ofInt x3)), (4, .int (Int32.ofInt s0)), (0, .ref (a 2)), (1, .ref (a 1)), (2, .int (Int32.ofInt v2)), (3, .int (Int32.ofInt v3))]) hx hb dX6_fillMargins_58 hl (by decide) rfl (fun ls hl => ?_)
  refine lv_aload_n hx hb dX6_fillMargins_60 rfl (lv_at hl 5 rfl) ?_
  refine gfWX_Sight_margin hc hP q_60 dX6_fillMargins_61 ?_
  refine lv_iload hx hb dX6_fillMargins_64 (lv_at hl 0 rfl) ?_
  refine lv_iload hx hb dX6_fillMargins_66 (lv_at hl 4 rfl) ?_
  refine lv_aload_n hx hb dX6_fillMargins_68 rfl (lv_at hl 5 rfl) ?_
  refine lv_iload hx hb dX6_fillMargins_69 (lv_at hl 3 rfl) ?_
  refine lv_iload hx hb dX6_fillMargins_71 (lv_at hl 2 rfl) ?_
  refine lv_iload_n hx hb dX6_fillMargins_73 rfl (lv_at hl 8 rfl) ?_
  obtain ⟨S13, x15, hk14, h⟩ := ob2_at h
  refine cl_Vi (As := [.int (Int32.ofInt x3), .int (Int32.ofInt x6), .int (Int32.ofInt v3)]) (rest := [.int (Int32.ofInt s0), .int (Int32.ofInt x12), .ref (a 16)]) hc k_X6_turnOf q_356 (c_X6_turnOf hk14) hP hS (WX_2 a g (em S10)) rfl rfl rfl hl (Nat.le_of_ble_eq_true rfl) dX6_fillMargins_74 (Nat.le_of_ble_eq_true rfl) (Nat.le_of_ble_eq_true rfl) rfl (fun H locs hP hS => ?_)
  refine z_imul hx hb dX6_fillMargins_77 ?_
  obtain ⟨h16, h⟩ := chk_at h
  refine szWX_Sight_margin hc hP hS h16 dX6_fillMargins_78 (fun H locs hP hS => ?_)
  obtain ⟨S17, eS17⟩ : ∃ z, z = ua S13 8 (x12).toNat (s0 * x15) := ⟨_, rfl⟩
  replace h := olet_at eS17 h
  rw [← eS17] at hP
  refine lv_aload_n hx hb dX6_fillMargins_79 rfl (lv_at hl 5 rfl) ?_
  refine gfWX_Sight_margin hc hP q_60 dX6_fillMargins_80 ?_
  refine lv_iload hx hb dX6_fillMargins_83 (lv_at hl 0 rfl) ?_
  refine lv_iconst (v := Int32.ofInt (1 : Int)) hx hb dX6_fillMargins_85 (by decide) ?_
  refine z_iadd hx hb dX6_fillMargins_86 ?_
  refine lv_iload hx hb dX6_fillMargins_87 (lv_at hl 4 rfl) ?_
  refine lv_aload_n hx hb dX6_fillMargins_89 rfl (lv_at hl 5 rfl) ?_
  refine lv_iload hx hb dX6_fillMargins_90 (lv_at hl 2 rfl) ?_
  refine lv_iload hx hb dX6_fillMargins_92 (lv_at hl 1 rfl) ?_
  refine lv_iload_n hx hb dX6_fillMargins_94 rfl (lv_at hl 8 rfl) ?_
  obtain ⟨S18, x20, hk19, h⟩ := ob2_at h
  refine cl_Vi (As := [.int (Int32.ofInt x6), .int (Int32.ofInt x9), .int (Int32.ofInt v3)]) (rest := [.int (Int32.ofInt s0), .int (Int32.ofInt (x12 + (1 : Int))), .ref (a 16)]) hc k_X6_turnOf q_356 (c_X6_turnOf hk19) hP hS (WX_2 a g (em S17)) rfl rfl rfl hl (Nat.le_of_ble_eq_true rfl) dX6_fillMargins_95 (Nat.le_of_ble_eq_true rfl) (Nat.le_of_ble_eq_true rfl) rfl (fun H locs hP hS => ?_)
  refine z_imul hx hb dX6_fillMargins_98 ?_
  obtain ⟨h21, h⟩ := chk_at h
  refine szWX_Sight_margin hc hP hS h21 dX6_fillMargins_99 (fun H locs hP hS => ?_)
  obtain ⟨S22, eS22⟩ : ∃ z, z = ua S18 8 ((x12 + (1 : Int))).toNat (s0 * x20) := ⟨_, rfl⟩
  replace h := olet_at eS22 h
  rw [← eS22] at hP
  refine lv_aload_n hx hb dX6_fillMargins_100 rfl (lv_at hl 5 rfl) ?_
  refine gfWX_Sight_margin hc hP q_60 dX6_fillMargins_101 ?_
  refine lv_iload hx hb dX6_fillMargins_104 (lv_at hl 0 rfl) ?_
  refine lv_iconst (v := Int32.ofInt (2 : Int)) hx hb dX6_fillMargins_106 (by decide) ?_
  refine z_iadd hx hb dX6_fillMargins_107 ?_
  refine lv_iload hx hb dX6_fillMargins_108 (lv_at hl 4 rfl) ?_
  refine lv_aload_n hx hb dX6_fillMargins_110 rfl (lv_at hl 5 rfl) ?_
  refine lv_iload hx hb dX6_fillMargins_111 (lv_at hl 1 rfl) ?_
  refine lv_iload hx hb dX6_fillMargins_113 (lv_at hl 3 rfl) ?_
  refine lv_iload_n hx hb dX6_fillMargins_115 rfl (lv_at hl 8 rfl) ?_
  obtain ⟨S23, x25, hk24, h⟩ := ob2_at h
  refine cl_Vi (As := [.int (Int32.ofInt x9), .int (Int32.ofInt x3), .int (Int32.ofInt v3)]) (rest := [.int (Int32.ofInt s0), .int (Int32.ofInt (x12 + (2 : Int))), .ref (a 16)]) hc k_X6_turnOf q_356 (c_X6_turnOf hk24) hP hS (WX_2 a g (em S22)) rfl rfl rfl hl (Nat.le_of_ble_eq_true rfl) dX6_fillMargins_116 (Nat.le_of_ble_eq_true rfl) (Nat.le_of_ble_eq_true rfl) rfl (fun H locs hP hS => ?_)
  refine z_imul hx hb dX6_fillMargins_119 ?_
  obtain ⟨h26, h⟩ := chk_at h
  refine szWX_Sight_margin hc hP hS h26 dX6_fillMargins_120 (fun H locs hP hS => ?_)
  obtain ⟨S27, eS27⟩ : ∃ z, z = ua S23 8 ((x12 + (2 : Int))).toNat (s0 * x25) := ⟨_, rfl⟩
  replace h := olet_at eS27 h
  rw [← eS27] at hP
  refine lv_aload_n hx hb dX6_fillMargins_121 rfl (lv_at hl 5 rfl) ?_
  refine gfWX_Sight_margin hc hP q_60 dX6_fillMargins_122 ?_
  refine lv_iload hx hb dX6_fillMargins_125 (lv_at hl 0 rfl) ?_
  refine lv_iconst (v := Int32.ofInt (3 : Int)) hx hb dX6_fillMargins_127 (by decide) ?_
  refine z_iadd hx hb dX6_fillMargins_128 ?_
  refine lv_iload hx hb dX6_fillMargins_129 (lv_at hl 4 rfl) ?_
  refine lv_aload_n hx hb dX6_fillMargins_131 rfl (lv_at hl 5 rfl) ?_
  refine lv_aload_n hx hb dX6_fillMargins_132 rfl (lv_at hl 6 rfl) ?_
  refine lv_iload_n hx hb dX6_fillMargins_133 rfl (lv_at hl 7 rfl) ?_
  refine lv_iload_n hx hb dX6_fillMargins_134 rfl (lv_at hl 8 rfl) ?_
  obtain ⟨S28, x30, hk29, h⟩ := ob2_at h
  refine cl_Vi (As := [.ref (a 1), .int (Int32.ofInt v2), .int (Int32.ofInt v3)]) (rest := [.int (Int32.ofInt s0), .int (Int32.ofInt (x12 + (3 : Int))), .ref (a 16)]) hc k_X6_depth q_367 (c_X6_depth hk29) hP hS (WX_2 a g (em S27)) rfl rfl rfl hl (Nat.le_of_ble_eq_true rfl) dX6_fillMargins_135 (Nat.le_of_ble_eq_true rfl) (Nat.le_of_ble_eq_true rfl) rfl (fun H locs hP hS => ?_)
  refine z_imul hx hb dX6_fillMargins_138 ?_
  obtain ⟨h31, h⟩ := chk_at h
  refine szWX_Sight_margin hc hP hS h31 dX6_fillMargins_139 (fun H locs hP hS => ?_)
  obtain ⟨S32, eS32⟩ : ∃ z, z = ua S28 8 ((x12 + (3 : Int))).toNat (s0 * x30) := ⟨_, rfl⟩
  replace h := olet_at eS32 h
  rw [← eS32] at hP
  obtain rfl := Option.some.inj h
  exact hr _ _ _ _ dX6_fillMargins_140 hP hS
set_option maxHeartbeats 4000000 in
set_option maxRecDepth 100000 in
theorem t_X6_fillMargins {z : SZ} (hc : Cx p R s m args c D (tysWX g) A (WX a g) cX6_fillMargins 9 RX6 2 46) (hr : Rtv p l e R s m args below meth c Q D A (WX a g) cX6_fillMargins (em z)) : ∀ (S : SZ) (v2 : Int) (v3 : Int), f_X6_fillMargins S v2 v3 = some z → Go p l e R s m args below meth c Q D A (WX a g) 9 (em S) 0 [(0, .ref (a 2)), (1, .ref (a 1)), (2, .int (Int32.ofInt v2)), (3, .int (Int32.ofInt v3))] [] := by
  obtain ⟨⟨hx, hb, hml, hown, hts⟩, -, -, -, hnf, hno⟩ := id hc
  intro S v2 v3 h H locs ls hP hS hl
  rw [f_X6_fillMargins] at h
  replace hl : lv_has ls 9 [(0, .ref (a 2)), (1, .ref (a 1)), (2, .int (Int32.ofInt v2)), (3, .int (Int32.ofInt v3))] := hl
  refine lv_aload_n hx hb dX6_fillMargins_0 rfl (lv_at hl 0 rfl) ?_
  refine gfWX_Sight_swing hc hP q_62 dX6_fillMargins_1 ?_
  refine lv_iload_n hx hb dX6_fillMargins_4 rfl (lv_at hl 2 rfl) ?_
  obtain ⟨h1, h⟩ := chk_at h
  refine azWX_Sight_swing hc hP h1 dX6_fillMargins_5 ?_
  obtain ⟨h2, h⟩ := chk_at h
  refine z_if_le (tgt := 13) hx hb h2 dX6_fillMargins_6 (by decide) (fun hq => ?_) (fun hq => ?_)
  · replace h := if_yes hq h
    refine lv_aload_n hx hb dX6_fillMargins_13 rfl (lv_at hl 0 rfl) ?_
    refine gfWX_Sight_swing hc hP q_62 dX6_fillMargins_14 ?_
    refine lv_iload_n hx hb dX6_fillMargins_17 rfl (lv_at hl 2 rfl) ?_
    refine azWX_Sight_swing hc hP h1 dX6_fillMargins_18 ?_
    refine z_if_ge (tgt := 26) hx hb h2 dX6_fillMargins_19 (by decide) (fun hq => ?_) (fun hq => ?_)
    · replace h := if_yes hq h
      refine lv_iconst (v := Int32.ofInt (0 : Int)) hx hb dX6_fillMargins_26 (by decide) ?_
      exact t_X6_fillMargins_p27 hc hr S v2 v3 (0 : Int) h H locs ls hP hS (lv_sub hl [0, 1, 2, 3] rfl)
    · replace h := if_no hq h
      refine lv_iconst (v := Int32.ofInt (-1 : Int)) hx hb dX6_fillMargins_22 (by decide) ?_
      refine lv_goto (tgt := 27) hx hb dX6_fillMargins_23 (by decide) ?_
      exact t_X6_fillMargins_p27 hc hr S v2 v3 (-1 : Int) h H locs ls hP hS (lv_sub hl [0, 1, 2, 3] rfl)
  · replace h := if_no hq h
    refine lv_iconst (v := Int32.ofInt (1 : Int)) hx hb dX6_fillMargins_9 (by decide) ?_
    refine lv_goto (tgt := 27) hx hb dX6_fillMargins_10 (by decide) ?_
    exact t_X6_fillMargins_p27 hc hr S v2 v3 (1 : Int) h H locs ls hP hS (lv_sub hl [0, 1, 2, 3] rfl)
abbrev rm_X6_fillMargins : Room := { frames := 2, cells := 0, slots := 0, locals := 46 }
theorem c_X6_fillMargins {l : Launch} {D : va_G} {a : Nat → Nat} {g : Nat → ClassId} {S : SZ} {v2 : Int} {v3 : Int} {z : SZ} (h : f_X6_fillMargins S v2 v3 = some z) : MetV l D (tysWX g) (WX a g) E0 yX6_fillMargins cX6_fillMargins 9 none rm_X6_fillMargins [.ref (a 2), .ref (a 1), .int (Int32.ofInt v2), .int (Int32.ofInt v3)] (em S) (em z) := mk_v (WX_same a g) (by decide) (em z) (Nat.le_of_ble_eq_true rfl) (fun p e s m args below meth c A Q hc hE hr => t_X6_fillMargins (z := z) hc hr S v2 v3 h)
theorem k_X6_fillMargins : CalV RX6 yX6_fillMargins cX6_fillMargins 9 none rm_X6_fillMargins 3 := ⟨q_361, q_362, q_18, q_363, by decide +kernel, rfl, rfl⟩
set_option maxHeartbeats 4000000 in
set_option maxRecDepth 100000 in
theorem t_X6_rebuild_p61 {z : SZ} (hc : Cx p R s m args c D (tysWX g) A (WX a g) cX6_rebuild 5 RX6 3 74) (hr : Rtv p l e R s m args below meth c Q D A (WX a g) cX6_rebuild (em z)) {k10 : SZ → Int → Option (SZ)} (K10 : ∀ (S : SZ) (v2 : Int), k10 S v2 = some z → Go p l e R s m args below meth c Q D A (WX a g) 5 (em S) 10 [(0, .ref (a 2)), (1, .ref (a 1)), (2, .int (Int32.ofInt v2))] []) : ∀ (fu : Nat) (S : SZ) (v2 : Int) (v3 : Int), f_X6_rebuild_p61 k10 fu S v2 v3 = some z → Go p l e R s m args below meth c Q D A (WX a g) 5 (em S) 61 [(0, .ref (a 2)), (1, .ref (a 1)), (2, .int (Int32.ofInt v2)), (3, .int (Int32.ofInt v3))] [] := by
  obtain ⟨⟨hx, hb, hml, hown, hts⟩, -, -, -, hnf, hno⟩ := id hc
  intro fu
  induction fu with
  | zero =>
    intro S v2 v3 h
    rw [f_X6_rebuild_p61] at h
    cases h
  | succ fu ih =>
    intro S v2 v3 h H locs ls hP hS hl
    rw [f_X6_rebuild_p61] at h
    refine lv_iload_n hx hb dX6_rebuild_61 rfl (lv_at hl 3 rfl) ?_
    refine lv_iload_n hx hb dX6_rebuild_62 rfl (lv_at hl 2 rfl) ?_
    obtain ⟨h1, h⟩ := chk_at h
    obtain ⟨h2, h⟩ := chk_at h
    refine z_icmp_ge (tgt := 108) hx hb h1 h2 dX6_rebuild_63 (by decide) (fun hq => ?_) (fun hq => ?_)
    · replace h := if_yes hq h
      refine lv_aload_n hx hb dX6_rebuild_108 rfl (lv_at hl 0 rfl) ?_
      refine gfWX_Sight_sweep hc hP q_58 dX6_rebuild_109 ?_
      refine lv_iload_n hx hb dX6_rebuild_112 rfl (lv_at hl 2 rfl) ?_
      refine lv_bipush (v := Int32.ofInt (16 : Int)) hx hb dX6_rebuild_113 (by decide) ?_
      refine z_imul hx hb dX6_rebuild_115 ?_
      refine lv_iload_n hx hb dX6_rebuild_116 rfl (lv_at hl 2 rfl) ?_
      refine z_iadd hx hb dX6_rebuild_117 ?_
      refine lv_iconst (v := Int32.ofInt (0 : Int)) hx hb dX6_rebuild_118 (by decide) ?_
      obtain ⟨h3, h⟩ := chk_at h
      refine szWX_Sight_sweep hc hP hS h3 dX6_rebuild_119 (fun H locs hP hS => ?_)
      obtain ⟨S4, eS4⟩ : ∃ z, z = ua S 6 (((v2 * (16 : Int)) + v2)).toNat (0 : Int) := ⟨_, rfl⟩
      replace h := olet_at eS4 h
      rw [← eS4] at hP
      obtain ⟨x5, ex5⟩ : ∃ y : Int, y = v2 + (1 : Int) := ⟨_, rfl⟩
      replace h := olet_at ex5 h
      refine lv_iinc (v := Int32.ofInt x5) (lv' := [(2, .int (Int32.ofInt x5)), (0, .ref (a 2)), (1, .ref (a 1)), (3, .int (Int32.ofInt v3))]) hx hb dX6_rebuild_120 hl (k := 2) rfl (by rw [ex5, Int32.ofInt_add]) (by decide) rfl (fun ls hl => ?_)
      refine lv_goto (tgt := 10) hx hb dX6_rebuild_123 (by decide) ?_
      exact K10 S4 x5 h H locs ls hP hS (lv_sub hl [1, 2, 0] rfl)
    · replace h := if_no hq h
      refine lv_aload_n hx hb dX6_rebuild_66 rfl (lv_at hl 0 rfl) ?_
      refine lv_aload_n hx hb dX6_rebuild_67 rfl (lv_at hl 1 rfl) ?_
      refine lv_iload_n hx hb dX6_rebuild_68 rfl (lv_at hl 2 rfl) ?_
      refine lv_iload_n hx hb dX6_rebuild_69 rfl (lv_at hl 3 rfl) ?_
      obtain ⟨S6, x8, hk7, h⟩ := ob2_at h
      refine cl_Vi (As := [.ref (a 1), .int (Int32.ofInt v2), .int (Int32.ofInt v3)]) (rest := []) hc k_X6_volumeOf q_346 (c_X6_volumeOf hk7) hP hS (WX_2 a g (em S)) rfl rfl rfl hl (Nat.le_of_ble_eq_true rfl) dX6_rebuild_70 (Nat.le_of_ble_eq_true rfl) (Nat.le_of_ble_eq_true rfl) rfl (fun H locs hP hS => ?_)
      refine lv_istore (lv' := [(4, .int (Int32.ofInt x8)), (0, .ref (a 2)), (1, .ref (a 1)), (2, .int (Int32.ofInt v2)), (3, .int (Int32.ofInt v3))]) hx hb dX6_rebuild_73 hl (by decide) rfl (fun ls hl => ?_)
      refine lv_aload_n hx hb dX6_rebuild_75 rfl (lv_at hl 1 rfl) ?_
      refine gfWX_Sight_sweep hc hP q_58 dX6_rebuild_76 ?_
      refine lv_iload_n hx hb dX6_rebuild_79 rfl (lv_at hl 3 rfl) ?_
      refine lv_bipush (v := Int32.ofInt (16 : Int)) hx hb dX6_rebuild_80 (by decide) ?_
      refine z_imul hx hb dX6_rebuild_82 ?_
      refine lv_iload_n hx hb dX6_rebuild_83 rfl (lv_at hl 4 rfl) ?_
      refine z_iadd hx hb dX6_rebuild_84 ?_
      refine lv_iload hx hb dX6_rebuild_85 (lv_at hl 0 rfl) ?_
      obtain ⟨h9, h⟩ := chk_at h
      refine szWX_Sight_sweep hc hP hS h9 dX6_rebuild_87 (fun H locs hP hS => ?_)
      obtain ⟨S10, eS10⟩ : ∃ z, z = ua S6 6 (((v2 * (16 : Int)) + v3)).toNat x8 := ⟨_, rfl⟩
      replace h := olet_at eS10 h
      rw [← eS10] at hP
      refine lv_aload_n hx hb dX6_rebuild_88 rfl (lv_at hl 1 rfl) ?_
      refine gfWX_Sight_sweep hc hP q_58 dX6_rebuild_89 ?_
      refine lv_iload_n hx hb dX6_rebuild_92 rfl (lv_at hl 4 rfl) ?_
      refine lv_bipush (v := Int32.ofInt (16 : Int)) hx hb dX6_rebuild_93 (by decide) ?_
      refine z_imul hx hb dX6_rebuild_95 ?_
      refine lv_iload_n hx hb dX6_rebuild_96 rfl (lv_at hl 3 rfl) ?_
      refine z_iadd hx hb dX6_rebuild_97 ?_
      refine lv_iload hx hb dX6_rebuild_98 (lv_at hl 0 rfl) ?_
      refine z_ineg hx hb dX6_rebuild_100 ?_
      obtain ⟨h11, h⟩ := chk_at h
      refine szWX_Sight_sweep hc hP hS h11 dX6_rebuild_101 (fun H locs hP hS => ?_)
      obtain ⟨S12, eS12⟩ : ∃ z, z = ua S10 6 (((v3 * (16 : Int)) + v2)).toNat (-x8) := ⟨_, rfl⟩
      replace h := olet_at eS12 h
      rw [← eS12] at hP
      obtain ⟨x13, ex13⟩ : ∃ y : Int, y = v3 + (1 : Int) := ⟨_, rfl⟩
      replace h := olet_at ex13 h
      refine lv_iinc (v := Int32.ofInt x13) (lv' := [(3, .int (Int32.ofInt x13)), (4, .int (Int32.ofInt x8)), (0, .ref (a 2)), (1, .ref (a 1)), (2, .int (Int32.ofInt v2))]) hx hb dX6_rebuild_102 hl (k := 4) rfl (by rw [ex13, Int32.ofInt_add]) (by decide) rfl (fun ls hl => ?_)
      refine lv_goto (tgt := 61) hx hb dX6_rebuild_105 (by decide) ?_
      exact ih S12 v2 x13 h H locs ls hP hS (lv_sub hl [2, 3, 4, 0] rfl)
set_option maxHeartbeats 4000000 in
set_option maxRecDepth 100000 in
theorem t_X6_rebuild_p172 {z : SZ} (hc : Cx p R s m args c D (tysWX g) A (WX a g) cX6_rebuild 5 RX6 3 74) (hr : Rtv p l e R s m args below meth c Q D A (WX a g) cX6_rebuild (em z)) {k128 : SZ → Int → Option (SZ)} (K128 : ∀ (S : SZ) (v2 : Int), k128 S v2 = some z → Go p l e R s m args below meth c Q D A (WX a g) 5 (em S) 128 [(0, .ref (a 2)), (1, .ref (a 1)), (2, .int (Int32.ofInt v2))] []) : ∀ (fu : Nat) (S : SZ) (v2 : Int) (v3 : Int), f_X6_rebuild_p172 k128 fu S v2 v3 = some z → Go p l e R s m args below meth c Q D A (WX a g) 5 (em S) 172 [(0, .ref (a 2)), (1, .ref (a 1)), (2, .int (Int32.ofInt v2)), (3, .int (Int32.ofInt v3))] [] := by
  obtain ⟨⟨hx, hb, hml, hown, hts⟩, -, -, -, hnf, hno⟩ := id hc
  intro fu
  induction fu with
  | zero =>
    intro S v2 v3 h
    rw [f_X6_rebuild_p172] at h
    cases h
  | succ fu ih =>
    intro S v2 v3 h H locs ls hP hS hl
    rw [f_X6_rebuild_p172] at h
    refine lv_iload_n hx hb dX6_rebuild_172 rfl (lv_at hl 3 rfl) ?_
    refine lv_aload_n hx hb dX6_rebuild_173 rfl (lv_at hl 1 rfl) ?_
    refine gzWX_Mesh_points hc hP q_342 dX6_rebuild_174 ?_
    obtain ⟨h1, h⟩ := chk_at h
    obtain ⟨h2, h⟩ := chk_at h
    refine z_icmp_ge (tgt := 193) hx hb h1 h2 dX6_rebuild_177 (by decide) (fun hq => ?_) (fun hq => ?_)
    · replace h := if_yes hq h
      obtain ⟨x3, ex3⟩ : ∃ y : Int, y = v2 + (1 : Int) := ⟨_, rfl⟩
      replace h := olet_at ex3 h
      refine lv_iinc (v := Int32.ofInt x3) (lv' := [(2, .int (Int32.ofInt x3)), (0, .ref (a 2)), (1, .ref (a 1)), (3, .int (Int32.ofInt v3))]) hx hb dX6_rebuild_193 hl (k := 2) rfl (by rw [ex3, Int32.ofInt_add]) (by decide) rfl (fun ls hl => ?_)
      refine lv_goto (tgt := 128) hx hb dX6_rebuild_196 (by decide) ?_
      exact K128 S x3 h H locs ls hP hS (lv_sub hl [1, 2, 0] rfl)
    · replace h := if_no hq h
      refine lv_aload_n hx hb dX6_rebuild_180 rfl (lv_at hl 0 rfl) ?_
      refine lv_aload_n hx hb dX6_rebuild_181 rfl (lv_at hl 1 rfl) ?_
      refine lv_iload_n hx hb dX6_rebuild_182 rfl (lv_at hl 2 rfl) ?_
      refine lv_iload_n hx hb dX6_rebuild_183 rfl (lv_at hl 3 rfl) ?_
      obtain ⟨S4, hk5, h⟩ := ob1_at h
      refine cl_Vv (As := [.ref (a 1), .int (Int32.ofInt v2), .int (Int32.ofInt v3)]) (rest := []) hc k_X6_fillMargins q_360 (c_X6_fillMargins hk5) hP hS (WX_2 a g (em S)) rfl rfl rfl hl (Nat.le_of_ble_eq_true rfl) dX6_rebuild_184 (Nat.le_of_ble_eq_true rfl) (Nat.le_of_ble_eq_true rfl) rfl (fun H locs hP hS => ?_)
      obtain ⟨x6, ex6⟩ : ∃ y : Int, y = v3 + (1 : Int) := ⟨_, rfl⟩
      replace h := olet_at ex6 h
      refine lv_iinc (v := Int32.ofInt x6) (lv' := [(3, .int (Int32.ofInt x6)), (0, .ref (a 2)), (1, .ref (a 1)), (2, .int (Int32.ofInt v2))]) hx hb dX6_rebuild_187 hl (k := 3) rfl (by rw [ex6, Int32.ofInt_add]) (by decide) rfl (fun ls hl => ?_)
      refine lv_goto (tgt := 172) hx hb dX6_rebuild_190 (by decide) ?_
      exact ih S4 v2 x6 h H locs ls hP hS (lv_sub hl [1, 2, 3, 0] rfl)
set_option maxHeartbeats 4000000 in
set_option maxRecDepth 100000 in
theorem t_X6_rebuild_p128 {z : SZ} (hc : Cx p R s m args c D (tysWX g) A (WX a g) cX6_rebuild 5 RX6 3 74) (hr : Rtv p l e R s m args below meth c Q D A (WX a g) cX6_rebuild (em z)) : ∀ (fu : Nat) (S : SZ) (v2 : Int), f_X6_rebuild_p128 fu S v2 = some z → Go p l e R s m args below meth c Q D A (WX a g) 5 (em S) 128 [(0, .ref (a 2)), (1, .ref (a 1)), (2, .int (Int32.ofInt v2))] [] := by
  obtain ⟨⟨hx, hb, hml, hown, hts⟩, -, -, -, hnf, hno⟩ := id hc
  intro fu
  induction fu with
  | zero =>
    intro S v2 h
    rw [f_X6_rebuild_p128] at h
    cases h
  | succ fu ih =>
    intro S v2 h H locs ls hP hS hl
    rw [f_X6_rebuild_p128] at h
    refine lv_iload_n hx hb dX6_rebuild_128 rfl (lv_at hl 2 rfl) ?_
    refine lv_aload_n hx hb dX6_rebuild_129 rfl (lv_at hl 0 rfl) ?_
    refine gzWX_Sight_faces hc hP q_341 dX6_rebuild_130 ?_
    obtain ⟨h1, h⟩ := chk_at h
    obtain ⟨h2, h⟩ := chk_at h
    refine z_icmp_ge (tgt := 199) hx hb h1 h2 dX6_rebuild_133 (by decide) (fun hq => ?_) (fun hq => ?_)
    · replace h := if_yes hq h
      obtain rfl := Option.some.inj h
      exact hr _ _ _ _ dX6_rebuild_199 hP hS
    · replace h := if_no hq h
      refine lv_aload_n hx hb dX6_rebuild_136 rfl (lv_at hl 0 rfl) ?_
      refine lv_aload_n hx hb dX6_rebuild_137 rfl (lv_at hl 1 rfl) ?_
      refine lv_iload_n hx hb dX6_rebuild_138 rfl (lv_at hl 2 rfl) ?_
      obtain ⟨S3, hk4, h⟩ := ob1_at h
      refine cl_Vv (As := [.ref (a 1), .int (Int32.ofInt v2)]) (rest := []) hc k_X6_fillNormal q_350 (c_X6_fillNormal hk4) hP hS (WX_2 a g (em S)) rfl rfl rfl hl (Nat.le_of_ble_eq_true rfl) dX6_rebuild_139 (Nat.le_of_ble_eq_true rfl) (Nat.le_of_ble_eq_true rfl) rfl (fun H locs hP hS => ?_)
      refine lv_aload_n hx hb dX6_rebuild_142 rfl (lv_at hl 0 rfl) ?_
      refine gfWX_Sight_swing hc hP q_62 dX6_rebuild_143 ?_
      refine lv_iload_n hx hb dX6_rebuild_146 rfl (lv_at hl 2 rfl) ?_
      refine lv_aload_n hx hb dX6_rebuild_147 rfl (lv_at hl 0 rfl) ?_
      refine lv_aload_n hx hb dX6_rebuild_148 rfl (lv_at hl 1 rfl) ?_
      refine lv_iload_n hx hb dX6_rebuild_149 rfl (lv_at hl 2 rfl) ?_
      refine lv_iconst (v := Int32.ofInt (0 : Int)) hx hb dX6_rebuild_150 (by decide) ?_
      obtain ⟨S5, x7, hk6, h⟩ := ob2_at h
      refine cl_Vi (As := [.int (Int32.ofInt v2), .int (Int32.ofInt (0 : Int))]) (rest := [.ref (a 2), .int (Int32.ofInt v2), .ref (a 18)]) hc k_X4_cornerOf q_354 (c_X4_cornerOf hk6) hP hS (WX_1 a g (em S3)) rfl rfl rfl hl (Nat.le_of_ble_eq_true rfl) dX6_rebuild_151 (Nat.le_of_ble_eq_true rfl) (Nat.le_of_ble_eq_true rfl) rfl (fun H locs hP hS => ?_)
      refine lv_aload_n hx hb dX6_rebuild_154 rfl (lv_at hl 1 rfl) ?_
      refine lv_iload_n hx hb dX6_rebuild_155 rfl (lv_at hl 2 rfl) ?_
      refine lv_iconst (v := Int32.ofInt (1 : Int)) hx hb dX6_rebuild_156 (by decide) ?_
      obtain ⟨S8, x10, hk9, h⟩ := ob2_at h
      refine cl_Vi (As := [.int (Int32.ofInt v2), .int (Int32.ofInt (1 : Int))]) (rest := [.int (Int32.ofInt x7), .ref (a 2), .int (Int32.ofInt v2), .ref (a 18)]) hc k_X4_cornerOf q_354 (c_X4_cornerOf hk9) hP hS (WX_1 a g (em S5)) rfl rfl rfl hl (Nat.le_of_ble_eq_true rfl) dX6_rebuild_157 (Nat.le_of_ble_eq_true rfl) (Nat.le_of_ble_eq_true rfl) rfl (fun H locs hP hS => ?_)
      refine lv_aload_n hx hb dX6_rebuild_160 rfl (lv_at hl 1 rfl) ?_
      refine lv_iload_n hx hb dX6_rebuild_161 rfl (lv_at hl 2 rfl) ?_
      refine lv_iconst (v := Int32.ofInt (2 : Int)) hx hb dX6_rebuild_162 (by decide) ?_
      obtain ⟨S11, x13, hk12, h⟩ := ob2_at h
      refine cl_Vi (As := [.int (Int32.ofInt v2), .int (Int32.ofInt (2 : Int))]) (rest := [.int (Int32.ofInt x10), .int (Int32.ofInt x7), .ref (a 2), .int (Int32.ofInt v2), .ref (a 18)]) hc k_X4_cornerOf q_354 (c_X4_cornerOf hk12) hP hS (WX_1 a g (em S8)) rfl rfl rfl hl (Nat.le_of_ble_eq_true rfl) dX6_rebuild_163 (Nat.le_of_ble_eq_true rfl) (Nat.le_of_ble_eq_true rfl) rfl (fun H locs hP hS => ?_)
      obtain ⟨S14, x16, hk15, h⟩ := ob2_at h
      refine cl_Vi (As := [.int (Int32.ofInt x7), .int (Int32.ofInt x10), .int (Int32.ofInt x13)]) (rest := [.int (Int32.ofInt v2), .ref (a 18)]) hc k_X6_turnOf q_356 (c_X6_turnOf hk15) hP hS (WX_2 a g (em S11)) rfl rfl rfl hl (Nat.le_of_ble_eq_true rfl) dX6_rebuild_166 (Nat.le_of_ble_eq_true rfl) (Nat.le_of_ble_eq_true rfl) rfl (fun H locs hP hS => ?_)
      obtain ⟨h17, h⟩ := chk_at h
      refine szWX_Sight_swing hc hP hS h17 dX6_rebuild_169 (fun H locs hP hS => ?_)
      obtain ⟨S18, eS18⟩ : ∃ z, z = ua S14 10 (v2).toNat x16 := ⟨_, rfl⟩
      replace h := olet_at eS18 h
      rw [← eS18] at hP
      refine lv_iconst (v := Int32.ofInt (0 : Int)) hx hb dX6_rebuild_170 (by decide) ?_
      refine lv_istore_n (lv' := [(3, .int (Int32.ofInt (0 : Int))), (0, .ref (a 2)), (1, .ref (a 1)), (2, .int (Int32.ofInt v2))]) hx hb dX6_rebuild_171 rfl hl (by decide) rfl (fun ls hl => ?_)
      exact t_X6_rebuild_p172 hc hr ih FU S18 v2 (0 : Int) h H locs ls hP hS (lv_sub hl [1, 2, 3, 0] rfl)
set_option maxHeartbeats 4000000 in
set_option maxRecDepth 100000 in
theorem t_X6_rebuild_p10 {z : SZ} (hc : Cx p R s m args c D (tysWX g) A (WX a g) cX6_rebuild 5 RX6 3 74) (hr : Rtv p l e R s m args below meth c Q D A (WX a g) cX6_rebuild (em z)) : ∀ (fu : Nat) (S : SZ) (v2 : Int), f_X6_rebuild_p10 fu S v2 = some z → Go p l e R s m args below meth c Q D A (WX a g) 5 (em S) 10 [(0, .ref (a 2)), (1, .ref (a 1)), (2, .int (Int32.ofInt v2))] [] := by
  obtain ⟨⟨hx, hb, hml, hown, hts⟩, -, -, -, hnf, hno⟩ := id hc
  intro fu
  induction fu with
  | zero =>
    intro S v2 h
    rw [f_X6_rebuild_p10] at h
    cases h
  | succ fu ih =>
    intro S v2 h H locs ls hP hS hl
    rw [f_X6_rebuild_p10] at h
    refine lv_iload_n hx hb dX6_rebuild_10 rfl (lv_at hl 2 rfl) ?_
    refine lv_aload_n hx hb dX6_rebuild_11 rfl (lv_at hl 1 rfl) ?_
    refine gzWX_Mesh_points hc hP q_342 dX6_rebuild_12 ?_
    obtain ⟨h1, h⟩ := chk_at h
    obtain ⟨h2, h⟩ := chk_at h
    refine z_icmp_ge (tgt := 126) hx hb h1 h2 dX6_rebuild_15 (by decide) (fun hq => ?_) (fun hq => ?_)
    · replace h := if_yes hq h
      refine lv_iconst (v := Int32.ofInt (0 : Int)) hx hb dX6_rebuild_126 (by decide) ?_
      refine lv_istore_n (lv' := [(2, .int (Int32.ofInt (0 : Int))), (0, .ref (a 2)), (1, .ref (a 1))]) hx hb dX6_rebuild_127 rfl hl (by decide) rfl (fun ls hl => ?_)
      exact t_X6_rebuild_p128 hc hr FU S (0 : Int) h H locs ls hP hS (lv_sub hl [1, 2, 0] rfl)
    · replace h := if_no hq h
      refine lv_aload_n hx hb dX6_rebuild_18 rfl (lv_at hl 0 rfl) ?_
      refine gfWX_Sight_height hc hP q_61 dX6_rebuild_19 ?_
      refine lv_iload_n hx hb dX6_rebuild_22 rfl (lv_at hl 2 rfl) ?_
      refine lv_aload_n hx hb dX6_rebuild_23 rfl (lv_at hl 0 rfl) ?_
      refine gzWX_Sight_a hc hP q_55 dX6_rebuild_24 ?_
      refine lv_aload_n hx hb dX6_rebuild_27 rfl (lv_at hl 1 rfl) ?_
      refine gfWX_Mesh_x hc hP q_343 dX6_rebuild_28 ?_
      refine lv_iload_n hx hb dX6_rebuild_31 rfl (lv_at hl 2 rfl) ?_
      obtain ⟨h3, h⟩ := chk_at h
      refine azWX_Mesh_x hc hP h3 dX6_rebuild_32 ?_
      refine z_imul hx hb dX6_rebuild_33 ?_
      refine lv_aload_n hx hb dX6_rebuild_34 rfl (lv_at hl 0 rfl) ?_
      refine gzWX_Sight_b hc hP q_56 dX6_rebuild_35 ?_
      refine lv_aload_n hx hb dX6_rebuild_38 rfl (lv_at hl 1 rfl) ?_
      refine gfWX_Mesh_y hc hP q_344 dX6_rebuild_39 ?_
      refine lv_iload_n hx hb dX6_rebuild_42 rfl (lv_at hl 2 rfl) ?_
      refine azWX_Mesh_y hc hP h3 dX6_rebuild_43 ?_
      refine z_imul hx hb dX6_rebuild_44 ?_
      refine z_iadd hx hb dX6_rebuild_45 ?_
      refine lv_aload_n hx hb dX6_rebuild_46 rfl (lv_at hl 0 rfl) ?_
      refine gzWX_Sight_c hc hP q_57 dX6_rebuild_47 ?_
      refine lv_aload_n hx hb dX6_rebuild_50 rfl (lv_at hl 1 rfl) ?_
      refine gfWX_Mesh_z hc hP q_345 dX6_rebuild_51 ?_
      refine lv_iload_n hx hb dX6_rebuild_54 rfl (lv_at hl 2 rfl) ?_
      refine azWX_Mesh_z hc hP h3 dX6_rebuild_55 ?_
      refine z_imul hx hb dX6_rebuild_56 ?_
      refine z_iadd hx hb dX6_rebuild_57 ?_
      refine szWX_Sight_height hc hP hS h3 dX6_rebuild_58 (fun H locs hP hS => ?_)
      obtain ⟨S4, eS4⟩ : ∃ z, z = ua S 9 (v2).toNat ((((zi S 5) * (za S 1 (v2).toNat)) + ((zi S 6) * (za S 2 (v2).toNat))) + ((zi S 7) * (za S 3 (v2).toNat))) := ⟨_, rfl⟩
      replace h := olet_at eS4 h
      rw [← eS4] at hP
      refine lv_iconst (v := Int32.ofInt (0 : Int)) hx hb dX6_rebuild_59 (by decide) ?_
      refine lv_istore_n (lv' := [(3, .int (Int32.ofInt (0 : Int))), (0, .ref (a 2)), (1, .ref (a 1)), (2, .int (Int32.ofInt v2))]) hx hb dX6_rebuild_60 rfl hl (by decide) rfl (fun ls hl => ?_)
      exact t_X6_rebuild_p61 hc hr ih FU S4 v2 (0 : Int) h H locs ls hP hS (lv_sub hl [1, 2, 3, 0] rfl)
set_option maxHeartbeats 4000000 in
set_option maxRecDepth 100000 in
theorem t_X6_rebuild {z : SZ} (hc : Cx p R s m args c D (tysWX g) A (WX a g) cX6_rebuild 5 RX6 3 74) (hr : Rtv p l e R s m args below meth c Q D A (WX a g) cX6_rebuild (em z)) : ∀ (S : SZ), f_X6_rebuild S = some z → Go p l e R s m args below meth c Q D A (WX a g) 5 (em S) 0 [(0, .ref (a 2)), (1, .ref (a 1))] [] := by
  obtain ⟨⟨hx, hb, hml, hown, hts⟩, -, -, -, hnf, hno⟩ := id hc
  intro S h H locs ls hP hS hl
  rw [f_X6_rebuild] at h
  replace hl : lv_has ls 5 [(0, .ref (a 2)), (1, .ref (a 1))] := hl
  refine lv_aload_n hx hb dX6_rebuild_0 rfl (lv_at hl 0 rfl) ?_
  refine lv_aload_n hx hb dX6_rebuild_1 rfl (lv_at hl 1 rfl) ?_
  refine gzWX_Mesh_faces hc hP q_340 dX6_rebuild_2 ?_
  refine pzWX_Sight_faces hc hP hS q_341 dX6_rebuild_5 (fun H locs hP hS => ?_)
  obtain ⟨S1, eS1⟩ : ∃ z, z = ui S 8 (zi S 3) := ⟨_, rfl⟩
  replace h := olet_at eS1 h
  rw [← eS1] at hP
  refine lv_iconst (v := Int32.ofInt (0 : Int)) hx hb dX6_rebuild_8 (by decide) ?_
  refine lv_istore_n (lv' := [(2, .int (Int32.ofInt (0 : Int))), (0, .ref (a 2)), (1, .ref (a 1))]) hx hb dX6_rebuild_9 rfl hl (by decide) rfl (fun ls hl => ?_)
  exact t_X6_rebuild_p10 hc hr FU S1 (0 : Int) h H locs ls hP hS (lv_sub hl [1, 2, 0] rfl)
abbrev rm_X6_rebuild : Room := { frames := 3, cells := 0, slots := 0, locals := 74 }
theorem c_X6_rebuild {l : Launch} {D : va_G} {a : Nat → Nat} {g : Nat → ClassId} {S : SZ} {z : SZ} (h : f_X6_rebuild S = some z) : MetV l D (tysWX g) (WX a g) E0 yX6_rebuild cX6_rebuild 5 none rm_X6_rebuild [.ref (a 2), .ref (a 1)] (em S) (em z) := mk_v (WX_same a g) (by decide) (em z) (Nat.le_of_ble_eq_true rfl) (fun p e s m args below meth c A Q hc hE hr => t_X6_rebuild (z := z) hc hr S h)
theorem k_X6_rebuild : CalV RX6 yX6_rebuild cX6_rebuild 5 none rm_X6_rebuild 1 := ⟨q_337, q_338, q_18, q_339, by decide +kernel, rfl, rfl⟩
set_option maxHeartbeats 4000000 in
set_option maxRecDepth 100000 in
theorem t_X6_stretchEnd_p64 {z : SZ × Int} (hc : Cx p R s m args c D (tysWX g) A (WX a g) cX6_stretchEnd 13 RX6 1 27) (hr : Rtl p l e R s m args below meth c Q D A (WX a g) cX6_stretchEnd (em z.1, Int64.ofInt z.2)) {k22 : SZ → Int → Int → Int → Int → Option (SZ × Int)} (K22 : ∀ (S : SZ) (v4 : Int) (v5 : Int) (v6 : Int) (v8 : Int), k22 S v4 v5 v6 v8 = some z → Go p l e R s m args below meth c Q D A (WX a g) 13 (em S) 22 [(0, .ref (a 2)), (4, .int (Int32.ofInt v4)), (5, .int (Int32.ofInt v5)), (6, .long (Int64.ofInt v6)), (8, .int (Int32.ofInt v8))] []) : ∀ (S : SZ) (v4 : Int) (v5 : Int) (v6 : Int) (v8 : Int) (v9 : Int) (v10 : Int), f_X6_stretchEnd_p64 k22 S v4 v5 v6 v8 v9 v10 = some z → Go p l e R s m args below meth c Q D A (WX a g) 13 (em S) 64 [(0, .ref (a 2)), (4, .int (Int32.ofInt v4)), (5, .int (Int32.ofInt v5)), (6, .long (Int64.ofInt v6)), (8, .int (Int32.ofInt v8)), (9, .int (Int32.ofInt v9)), (10, .int (Int32.ofInt v10))] [] := by
  obtain ⟨⟨hx, hb, hml, hown, hts⟩, -, -, -, hnf, hno⟩ := id hc
  intro S v4 v5 v6 v8 v9 v10 h H locs ls hP hS hl
  rw [f_X6_stretchEnd_p64] at h
  refine lv_iload hx hb dX6_stretchEnd_64 (lv_at hl 6 rfl) ?_
  obtain ⟨h1, h⟩ := chk_at h
  refine z_if_gt (tgt := 100) hx hb h1 dX6_stretchEnd_66 (by decide) (fun hq => ?_) (fun hq => ?_)
  · replace h := if_yes hq h
    obtain ⟨x2, ex2⟩ : ∃ y : Int, y = v8 + (1 : Int) := ⟨_, rfl⟩
    replace h := olet_at ex2 h
    refine lv_iinc (v := Int32.ofInt x2) (lv' := [(8, .int (Int32.ofInt x2)), (0, .ref (a 2)), (4, .int (Int32.ofInt v4)), (5, .int (Int32.ofInt v5)), (6, .long (Int64.ofInt v6)), (9, .int (Int32.ofInt v9)), (10, .int (Int32.ofInt v10))]) hx hb dX6_stretchEnd_100 hl (k := 4) rfl (by rw [ex2, Int32.ofInt_add]) (by decide) rfl (fun ls hl => ?_)
    refine lv_goto (tgt := 22) hx hb dX6_stretchEnd_103 (by decide) ?_
    exact K22 S v4 v5 v6 x2 h H locs ls hP hS (lv_sub hl [1, 2, 3, 4, 0] rfl)
  · replace h := if_no hq h
    refine lv_iload hx hb dX6_stretchEnd_69 (lv_at hl 5 rfl) ?_
    refine lv_iload hx hb dX6_stretchEnd_71 (lv_at hl 5 rfl) ?_
    refine lv_iload hx hb dX6_stretchEnd_73 (lv_at hl 6 rfl) ?_
    refine z_isub hx hb dX6_stretchEnd_75 ?_
    obtain ⟨S3, x5, hk4, h⟩ := ob2_at h
    refine cl_Sl (As := [.int (Int32.ofInt v9), .int (Int32.ofInt (v9 - v10))]) (rest := []) hc k_X2_of q_449 (c_X2_of hk4) hP hS rfl hl (Nat.le_of_ble_eq_true rfl) dX6_stretchEnd_76 (Nat.le_of_ble_eq_true rfl) (Nat.le_of_ble_eq_true rfl) rfl (fun H locs hP hS => ?_)
    refine lv_lstore (lv' := [(11, .long (Int64.ofInt x5)), (0, .ref (a 2)), (4, .int (Int32.ofInt v4)), (5, .int (Int32.ofInt v5)), (6, .long (Int64.ofInt v6)), (8, .int (Int32.ofInt v8)), (9, .int (Int32.ofInt v9)), (10, .int (Int32.ofInt v10))]) hx hb dX6_stretchEnd_79 hl (by decide) rfl (fun ls hl => ?_)
    refine lv_lload hx hb dX6_stretchEnd_81 (lv_at hl 0 rfl) ?_
    refine lv_lload hx hb dX6_stretchEnd_83 (lv_at hl 4 rfl) ?_
    obtain ⟨S6, x8, hk7, h⟩ := ob2_at h
    refine cl_Si (As := [.long (Int64.ofInt x5), .long (Int64.ofInt v6)]) (rest := []) hc k_X2_less q_453 (c_X2_less hk7) hP hS rfl hl (Nat.le_of_ble_eq_true rfl) dX6_stretchEnd_85 (Nat.le_of_ble_eq_true rfl) (Nat.le_of_ble_eq_true rfl) rfl (fun H locs hP hS => ?_)
    obtain ⟨h9, h⟩ := chk_at h
    refine z_if_eq (tgt := 96) hx hb h9 dX6_stretchEnd_88 (by decide) (fun hq => ?_) (fun hq => ?_)
    · replace h := if_yes hq h
      refine lv_lload hx hb dX6_stretchEnd_96 (lv_at hl 4 rfl) ?_
      refine lv_lstore (lv' := [(6, .long (Int64.ofInt v6)), (11, .long (Int64.ofInt x5)), (0, .ref (a 2)), (4, .int (Int32.ofInt v4)), (5, .int (Int32.ofInt v5)), (8, .int (Int32.ofInt v8)), (9, .int (Int32.ofInt v9)), (10, .int (Int32.ofInt v10))]) hx hb dX6_stretchEnd_98 hl (by decide) rfl (fun ls hl => ?_)
      obtain ⟨x10, ex10⟩ : ∃ y : Int, y = v8 + (1 : Int) := ⟨_, rfl⟩
      replace h := olet_at ex10 h
      refine lv_iinc (v := Int32.ofInt x10) (lv' := [(8, .int (Int32.ofInt x10)), (6, .long (Int64.ofInt v6)), (11, .long (Int64.ofInt x5)), (0, .ref (a 2)), (4, .int (Int32.ofInt v4)), (5, .int (Int32.ofInt v5)), (9, .int (Int32.ofInt v9)), (10, .int (Int32.ofInt v10))]) hx hb dX6_stretchEnd_100 hl (k := 5) rfl (by rw [ex10, Int32.ofInt_add]) (by decide) rfl (fun ls hl => ?_)
      refine lv_goto (tgt := 22) hx hb dX6_stretchEnd_103 (by decide) ?_
      exact K22 S6 v4 v5 v6 x10 h H locs ls hP hS (lv_sub hl [3, 4, 5, 1, 0] rfl)
    · replace h := if_no hq h
      refine lv_lload hx hb dX6_stretchEnd_91 (lv_at hl 0 rfl) ?_
      refine lv_goto (tgt := 98) hx hb dX6_stretchEnd_93 (by decide) ?_
      refine lv_lstore (lv' := [(6, .long (Int64.ofInt x5)), (11, .long (Int64.ofInt x5)), (0, .ref (a 2)), (4, .int (Int32.ofInt v4)), (5, .int (Int32.ofInt v5)), (8, .int (Int32.ofInt v8)), (9, .int (Int32.ofInt v9)), (10, .int (Int32.ofInt v10))]) hx hb dX6_stretchEnd_98 hl (by decide) rfl (fun ls hl => ?_)
      obtain ⟨x11, ex11⟩ : ∃ y : Int, y = v8 + (1 : Int) := ⟨_, rfl⟩
      replace h := olet_at ex11 h
      refine lv_iinc (v := Int32.ofInt x11) (lv' := [(8, .int (Int32.ofInt x11)), (6, .long (Int64.ofInt x5)), (11, .long (Int64.ofInt x5)), (0, .ref (a 2)), (4, .int (Int32.ofInt v4)), (5, .int (Int32.ofInt v5)), (9, .int (Int32.ofInt v9)), (10, .int (Int32.ofInt v10))]) hx hb dX6_stretchEnd_100 hl (k := 5) rfl (by rw [ex11, Int32.ofInt_add]) (by decide) rfl (fun ls hl => ?_)
      refine lv_goto (tgt := 22) hx hb dX6_stretchEnd_103 (by decide) ?_
      exact K22 S6 v4 v5 x5 x11 h H locs ls hP hS (lv_sub hl [3, 4, 5, 1, 0] rfl)
set_option maxHeartbeats 4000000 in
set_option maxRecDepth 100000 in
theorem t_X6_stretchEnd_p22 {z : SZ × Int} (hc : Cx p R s m args c D (tysWX g) A (WX a g) cX6_stretchEnd 13 RX6 1 27) (hr : Rtl p l e R s m args below meth c Q D A (WX a g) cX6_stretchEnd (em z.1, Int64.ofInt z.2)) : ∀ (fu : Nat) (S : SZ) (v4 : Int) (v5 : Int) (v6 : Int) (v8 : Int), f_X6_stretchEnd_p22 fu S v4 v5 v6 v8 = some z → Go p l e R s m args below meth c Q D A (WX a g) 13 (em S) 22 [(0, .ref (a 2)), (4, .int (Int32.ofInt v4)), (5, .int (Int32.ofInt v5)), (6, .long (Int64.ofInt v6)), (8, .int (Int32.ofInt v8))] [] := by
  obtain ⟨⟨hx, hb, hml, hown, hts⟩, -, -, -, hnf, hno⟩ := id hc
  intro fu
  induction fu with
  | zero =>
    intro S v4 v5 v6 v8 h
    rw [f_X6_stretchEnd_p22] at h
    cases h
  | succ fu ih =>
    intro S v4 v5 v6 v8 h H locs ls hP hS hl
    rw [f_X6_stretchEnd_p22] at h
    refine lv_iload hx hb dX6_stretchEnd_22 (lv_at hl 4 rfl) ?_
    refine lv_iconst (v := Int32.ofInt (4 : Int)) hx hb dX6_stretchEnd_24 (by decide) ?_
    obtain ⟨h1, h⟩ := chk_at h
    refine z_icmp_ge (tgt := 106) hx hb h1 (by decide) dX6_stretchEnd_25 (by decide) (fun hq => ?_) (fun hq => ?_)
    · replace h := if_yes hq h
      refine lv_lload hx hb dX6_stretchEnd_106 (lv_at hl 3 rfl) ?_
      obtain ⟨S2, x4, hk3, h⟩ := ob2_at h
      refine cl_Sl (As := [.long (Int64.ofInt v6)]) (rest := []) hc k_X2_lowest q_456 (c_X2_lowest hk3) hP hS rfl hl (Nat.le_of_ble_eq_true rfl) dX6_stretchEnd_108 (Nat.le_of_ble_eq_true rfl) (Nat.le_of_ble_eq_true rfl) rfl (fun H locs hP hS => ?_)
      obtain rfl := Option.some.inj h
      exact hr _ _ _ _ dX6_stretchEnd_111 hP hS
    · replace h := if_no hq h
      refine lv_aload_n hx hb dX6_stretchEnd_28 rfl (lv_at hl 0 rfl) ?_
      refine gfWX_Sight_margin hc hP q_60 dX6_stretchEnd_29 ?_
      refine lv_iload hx hb dX6_stretchEnd_32 (lv_at hl 1 rfl) ?_
      refine lv_iload hx hb dX6_stretchEnd_34 (lv_at hl 4 rfl) ?_
      refine z_iadd hx hb dX6_stretchEnd_36 ?_
      obtain ⟨h5, h⟩ := chk_at h
      refine azWX_Sight_margin hc hP h5 dX6_stretchEnd_37 ?_
      refine z_topi (fun x6 ex6 => ?_)
      replace h := olet_at ex6 h
      refine lv_istore (lv' := [(9, .int (Int32.ofInt x6)), (0, .ref (a 2)), (4, .int (Int32.ofInt v4)), (5, .int (Int32.ofInt v5)), (6, .long (Int64.ofInt v6)), (8, .int (Int32.ofInt v8))]) hx hb dX6_stretchEnd_38 hl (by decide) rfl (fun ls hl => ?_)
      refine lv_aload_n hx hb dX6_stretchEnd_40 rfl (lv_at hl 1 rfl) ?_
      refine gfWX_Sight_margin hc hP q_60 dX6_stretchEnd_41 ?_
      refine lv_iload hx hb dX6_stretchEnd_44 (lv_at hl 3 rfl) ?_
      refine lv_iload hx hb dX6_stretchEnd_46 (lv_at hl 5 rfl) ?_
      refine z_iadd hx hb dX6_stretchEnd_48 ?_
      obtain ⟨h7, h⟩ := chk_at h
      refine azWX_Sight_margin hc hP h7 dX6_stretchEnd_49 ?_
      refine z_topi (fun x8 ex8 => ?_)
      replace h := olet_at ex8 h
      refine lv_istore (lv' := [(10, .int (Int32.ofInt x8)), (9, .int (Int32.ofInt x6)), (0, .ref (a 2)), (4, .int (Int32.ofInt v4)), (5, .int (Int32.ofInt v5)), (6, .long (Int64.ofInt v6)), (8, .int (Int32.ofInt v8))]) hx hb dX6_stretchEnd_50 hl (by decide) rfl (fun ls hl => ?_)
      refine lv_iload hx hb dX6_stretchEnd_52 (lv_at hl 1 rfl) ?_
      obtain ⟨h9, h⟩ := chk_at h
      refine z_if_gt (tgt := 64) hx hb h9 dX6_stretchEnd_54 (by decide) (fun hq => ?_) (fun hq => ?_)
      · replace h := if_yes hq h
        exact t_X6_stretchEnd_p64 hc hr ih S v4 v5 v6 v8 x6 x8 h H locs ls hP hS (lv_sub hl [2, 3, 4, 5, 6, 1, 0] rfl)
      · replace h := if_no hq h
        refine lv_iload hx hb dX6_stretchEnd_57 (lv_at hl 0 rfl) ?_
        obtain ⟨h10, h⟩ := chk_at h
        refine z_if_gt (tgt := 64) hx hb h10 dX6_stretchEnd_59 (by decide) (fun hq => ?_) (fun hq => ?_)
        · replace h := if_yes hq h
          exact t_X6_stretchEnd_p64 hc hr ih S v4 v5 v6 v8 x6 x8 h H locs ls hP hS (lv_sub hl [2, 3, 4, 5, 6, 1, 0] rfl)
        · replace h := if_no hq h
          refine lv_lconst (v := Int64.ofInt (1 : Int)) hx hb dX6_stretchEnd_62 (by decide) ?_
          obtain rfl := Option.some.inj h
          exact hr _ _ _ _ dX6_stretchEnd_63 hP hS
set_option maxHeartbeats 4000000 in
set_option maxRecDepth 100000 in
theorem t_X6_stretchEnd {z : SZ × Int} (hc : Cx p R s m args c D (tysWX g) A (WX a g) cX6_stretchEnd 13 RX6 1 27) (hr : Rtl p l e R s m args below meth c Q D A (WX a g) cX6_stretchEnd (em z.1, Int64.ofInt z.2)) : ∀ (S : SZ) (v1 : Int) (v2 : Int) (v3 : Int), f_X6_stretchEnd S v1 v2 v3 = some z → Go p l e R s m args below meth c Q D A (WX a g) 13 (em S) 0 [(0, .ref (a 2)), (1, .int (Int32.ofInt v1)), (2, .int (Int32.ofInt v2)), (3, .int (Int32.ofInt v3))] [] := by
  obtain ⟨⟨hx, hb, hml, hown, hts⟩, -, -, -, hnf, hno⟩ := id hc
  intro S v1 v2 v3 h H locs ls hP hS hl
  rw [f_X6_stretchEnd] at h
  replace hl : lv_has ls 13 [(0, .ref (a 2)), (1, .int (Int32.ofInt v1)), (2, .int (Int32.ofInt v2)), (3, .int (Int32.ofInt v3))] := hl
  refine lv_iload_n hx hb dX6_stretchEnd_0 rfl (lv_at hl 3 rfl) ?_
  refine lv_iload_n hx hb dX6_stretchEnd_1 rfl (lv_at hl 1 rfl) ?_
  obtain ⟨S1, x3, hk2, h⟩ := ob2_at h
  refine cl_Si (As := [.int (Int32.ofInt v3), .int (Int32.ofInt v1)]) (rest := []) hc k_X6_rowOf q_364 (c_X6_rowOf hk2) hP hS rfl hl (Nat.le_of_ble_eq_true rfl) dX6_stretchEnd_2 (Nat.le_of_ble_eq_true rfl) (Nat.le_of_ble_eq_true rfl) rfl (fun H locs hP hS => ?_)
  refine lv_istore (lv' := [(4, .int (Int32.ofInt x3)), (0, .ref (a 2)), (1, .int (Int32.ofInt v1)), (2, .int (Int32.ofInt v2)), (3, .int (Int32.ofInt v3))]) hx hb dX6_stretchEnd_5 hl (by decide) rfl (fun ls hl => ?_)
  refine lv_iload_n hx hb dX6_stretchEnd_7 rfl (lv_at hl 4 rfl) ?_
  refine lv_iload_n hx hb dX6_stretchEnd_8 rfl (lv_at hl 3 rfl) ?_
  obtain ⟨S4, x6, hk5, h⟩ := ob2_at h
  refine cl_Si (As := [.int (Int32.ofInt v3), .int (Int32.ofInt v2)]) (rest := []) hc k_X6_rowOf q_364 (c_X6_rowOf hk5) hP hS rfl hl (Nat.le_of_ble_eq_true rfl) dX6_stretchEnd_9 (Nat.le_of_ble_eq_true rfl) (Nat.le_of_ble_eq_true rfl) rfl (fun H locs hP hS => ?_)
  refine lv_istore (lv' := [(5, .int (Int32.ofInt x6)), (4, .int (Int32.ofInt x3)), (0, .ref (a 2)), (1, .int (Int32.ofInt v1)), (2, .int (Int32.ofInt v2)), (3, .int (Int32.ofInt v3))]) hx hb dX6_stretchEnd_12 hl (by decide) rfl (fun ls hl => ?_)
  refine lv_ldc2 (v := Int64.ofInt (4294967297 : Int)) hx hb hown (by have h9 := hts _ q_448; rwa [show (4294967297 : Int64) = Int64.ofInt (4294967297 : Int) by decide] at h9) dX6_stretchEnd_14 ?_
  refine lv_lstore (lv' := [(6, .long (Int64.ofInt (4294967297 : Int))), (5, .int (Int32.ofInt x6)), (4, .int (Int32.ofInt x3)), (0, .ref (a 2)), (1, .int (Int32.ofInt v1)), (2, .int (Int32.ofInt v2)), (3, .int (Int32.ofInt v3))]) hx hb dX6_stretchEnd_17 hl (by decide) rfl (fun ls hl => ?_)
  refine lv_iconst (v := Int32.ofInt (0 : Int)) hx hb dX6_stretchEnd_19 (by decide) ?_
  refine lv_istore (lv' := [(8, .int (Int32.ofInt (0 : Int))), (6, .long (Int64.ofInt (4294967297 : Int))), (5, .int (Int32.ofInt x6)), (4, .int (Int32.ofInt x3)), (0, .ref (a 2)), (1, .int (Int32.ofInt v1)), (2, .int (Int32.ofInt v2)), (3, .int (Int32.ofInt v3))]) hx hb dX6_stretchEnd_20 hl (by decide) rfl (fun ls hl => ?_)
  exact t_X6_stretchEnd_p22 hc hr FU S4 x3 x6 (4294967297 : Int) (0 : Int) h H locs ls hP hS (lv_sub hl [4, 3, 2, 1, 0] rfl)
abbrev rm_X6_stretchEnd : Room := { frames := 1, cells := 0, slots := 0, locals := 27 }
theorem c_X6_stretchEnd {l : Launch} {D : va_G} {a : Nat → Nat} {g : Nat → ClassId} {S : SZ} {v1 : Int} {v2 : Int} {v3 : Int} {Z1 : SZ} {r1 : Int} (h : f_X6_stretchEnd S v1 v2 v3 = some (Z1, r1)) : MetL l D (tysWX g) (WX a g) E0 yX6_stretchEnd cX6_stretchEnd 13 (some .long) rm_X6_stretchEnd [.ref (a 2), .int (Int32.ofInt v1), .int (Int32.ofInt v2), .int (Int32.ofInt v3)] (em S) (em Z1, Int64.ofInt r1) := mk_l (WX_same a g) (by decide) (em Z1, Int64.ofInt r1) (Nat.le_of_ble_eq_true rfl) (fun p e s m args below meth c A Q hc hE hr => t_X6_stretchEnd (z := (Z1, r1)) hc hr S v1 v2 v3 h)
theorem k_X6_stretchEnd : CalV RX6 yX6_stretchEnd cX6_stretchEnd 13 (some .long) rm_X6_stretchEnd 3 := ⟨q_445, q_446, q_18, q_447, by decide +kernel, rfl, rfl⟩
set_option maxHeartbeats 4000000 in
set_option maxRecDepth 100000 in
theorem t_X6_stretchBegin_p20 {z : SZ × Int} (hc : Cx p R s m args c D (tysWX g) A (WX a g) cX6_stretchBegin 13 RX6 1 27) (hr : Rtl p l e R s m args below meth c Q D A (WX a g) cX6_stretchBegin (em z.1, Int64.ofInt z.2)) : ∀ (fu : Nat) (S : SZ) (v4 : Int) (v5 : Int) (v6 : Int) (v8 : Int), f_X6_stretchBegin_p20 fu S v4 v5 v6 v8 = some z → Go p l e R s m args below meth c Q D A (WX a g) 13 (em S) 20 [(0, .ref (a 2)), (4, .int (Int32.ofInt v4)), (5, .int (Int32.ofInt v5)), (6, .long (Int64.ofInt v6)), (8, .int (Int32.ofInt v8))] [] := by
  obtain ⟨⟨hx, hb, hml, hown, hts⟩, -, -, -, hnf, hno⟩ := id hc
  intro fu
  induction fu with
  | zero =>
    intro S v4 v5 v6 v8 h
    rw [f_X6_stretchBegin_p20] at h
    cases h
  | succ fu ih =>
    intro S v4 v5 v6 v8 h H locs ls hP hS hl
    rw [f_X6_stretchBegin_p20] at h
    refine lv_iload hx hb dX6_stretchBegin_20 (lv_at hl 4 rfl) ?_
    refine lv_iconst (v := Int32.ofInt (4 : Int)) hx hb dX6_stretchBegin_22 (by decide) ?_
    obtain ⟨h1, h⟩ := chk_at h
    refine z_icmp_ge (tgt := 98) hx hb h1 (by decide) dX6_stretchBegin_23 (by decide) (fun hq => ?_) (fun hq => ?_)
    · replace h := if_yes hq h
      refine lv_lload hx hb dX6_stretchBegin_98 (lv_at hl 3 rfl) ?_
      obtain ⟨S2, x4, hk3, h⟩ := ob2_at h
      refine cl_Sl (As := [.long (Int64.ofInt v6)]) (rest := []) hc k_X2_lowest q_456 (c_X2_lowest hk3) hP hS rfl hl (Nat.le_of_ble_eq_true rfl) dX6_stretchBegin_100 (Nat.le_of_ble_eq_true rfl) (Nat.le_of_ble_eq_true rfl) rfl (fun H locs hP hS => ?_)
      obtain rfl := Option.some.inj h
      exact hr _ _ _ _ dX6_stretchBegin_103 hP hS
    · replace h := if_no hq h
      refine lv_aload_n hx hb dX6_stretchBegin_26 rfl (lv_at hl 0 rfl) ?_
      refine gfWX_Sight_margin hc hP q_60 dX6_stretchBegin_27 ?_
      refine lv_iload hx hb dX6_stretchBegin_30 (lv_at hl 1 rfl) ?_
      refine lv_iload hx hb dX6_stretchBegin_32 (lv_at hl 4 rfl) ?_
      refine z_iadd hx hb dX6_stretchBegin_34 ?_
      obtain ⟨h5, h⟩ := chk_at h
      refine azWX_Sight_margin hc hP h5 dX6_stretchBegin_35 ?_
      refine z_topi (fun x6 ex6 => ?_)
      replace h := olet_at ex6 h
      refine lv_istore (lv' := [(9, .int (Int32.ofInt x6)), (0, .ref (a 2)), (4, .int (Int32.ofInt v4)), (5, .int (Int32.ofInt v5)), (6, .long (Int64.ofInt v6)), (8, .int (Int32.ofInt v8))]) hx hb dX6_stretchBegin_36 hl (by decide) rfl (fun ls hl => ?_)
      refine lv_aload_n hx hb dX6_stretchBegin_38 rfl (lv_at hl 1 rfl) ?_
      refine gfWX_Sight_margin hc hP q_60 dX6_stretchBegin_39 ?_
      refine lv_iload hx hb dX6_stretchBegin_42 (lv_at hl 3 rfl) ?_
      refine lv_iload hx hb dX6_stretchBegin_44 (lv_at hl 5 rfl) ?_
      refine z_iadd hx hb dX6_stretchBegin_46 ?_
      obtain ⟨h7, h⟩ := chk_at h
      refine azWX_Sight_margin hc hP h7 dX6_stretchBegin_47 ?_
      refine z_topi (fun x8 ex8 => ?_)
      replace h := olet_at ex8 h
      refine lv_istore (lv' := [(10, .int (Int32.ofInt x8)), (9, .int (Int32.ofInt x6)), (0, .ref (a 2)), (4, .int (Int32.ofInt v4)), (5, .int (Int32.ofInt v5)), (6, .long (Int64.ofInt v6)), (8, .int (Int32.ofInt v8))]) hx hb dX6_stretchBegin_48 hl (by decide) rfl (fun ls hl => ?_)
      refine lv_iload hx hb dX6_stretchBegin_50 (lv_at hl 1 rfl) ?_
      obtain ⟨h9, h⟩ := chk_at h
      refine z_if_gt (tgt := 92) hx hb h9 dX6_stretchBegin_52 (by decide) (fun hq => ?_) (fun hq => ?_)
      · replace h := if_yes hq h
        obtain ⟨x10, ex10⟩ : ∃ y : Int, y = v8 + (1 : Int) := ⟨_, rfl⟩
        replace h := olet_at ex10 h
        refine lv_iinc (v := Int32.ofInt x10) (lv' := [(8, .int (Int32.ofInt x10)), (10, .int (Int32.ofInt x8)), (9, .int (Int32.ofInt x6)), (0, .ref (a 2)), (4, .int (Int32.ofInt v4)), (5, .int (Int32.ofInt v5)), (6, .long (Int64.ofInt v6))]) hx hb dX6_stretchBegin_92 hl (k := 6) rfl (by rw [ex10, Int32.ofInt_add]) (by decide) rfl (fun ls hl => ?_)
        refine lv_goto (tgt := 20) hx hb dX6_stretchBegin_95 (by decide) ?_
        exact ih S v4 v5 v6 x10 h H locs ls hP hS (lv_sub hl [3, 4, 5, 6, 0] rfl)
      · replace h := if_no hq h
        refine lv_iload hx hb dX6_stretchBegin_55 (lv_at hl 0 rfl) ?_
        obtain ⟨h11, h⟩ := chk_at h
        refine z_if_le (tgt := 92) hx hb h11 dX6_stretchBegin_57 (by decide) (fun hq => ?_) (fun hq => ?_)
        · replace h := if_yes hq h
          obtain ⟨x12, ex12⟩ : ∃ y : Int, y = v8 + (1 : Int) := ⟨_, rfl⟩
          replace h := olet_at ex12 h
          refine lv_iinc (v := Int32.ofInt x12) (lv' := [(8, .int (Int32.ofInt x12)), (10, .int (Int32.ofInt x8)), (9, .int (Int32.ofInt x6)), (0, .ref (a 2)), (4, .int (Int32.ofInt v4)), (5, .int (Int32.ofInt v5)), (6, .long (Int64.ofInt v6))]) hx hb dX6_stretchBegin_92 hl (k := 6) rfl (by rw [ex12, Int32.ofInt_add]) (by decide) rfl (fun ls hl => ?_)
          refine lv_goto (tgt := 20) hx hb dX6_stretchBegin_95 (by decide) ?_
          exact ih S v4 v5 v6 x12 h H locs ls hP hS (lv_sub hl [3, 4, 5, 6, 0] rfl)
        · replace h := if_no hq h
          refine lv_iload hx hb dX6_stretchBegin_60 (lv_at hl 1 rfl) ?_
          refine z_ineg hx hb dX6_stretchBegin_62 ?_
          refine lv_iload hx hb dX6_stretchBegin_63 (lv_at hl 0 rfl) ?_
          refine lv_iload hx hb dX6_stretchBegin_65 (lv_at hl 1 rfl) ?_
          refine z_isub hx hb dX6_stretchBegin_67 ?_
          obtain ⟨S13, x15, hk14, h⟩ := ob2_at h
          refine cl_Sl (As := [.int (Int32.ofInt (-x6)), .int (Int32.ofInt (x8 - x6))]) (rest := []) hc k_X2_of q_449 (c_X2_of hk14) hP hS rfl hl (Nat.le_of_ble_eq_true rfl) dX6_stretchBegin_68 (Nat.le_of_ble_eq_true rfl) (Nat.le_of_ble_eq_true rfl) rfl (fun H locs hP hS => ?_)
          refine lv_lstore (lv' := [(11, .long (Int64.ofInt x15)), (10, .int (Int32.ofInt x8)), (9, .int (Int32.ofInt x6)), (0, .ref (a 2)), (4, .int (Int32.ofInt v4)), (5, .int (Int32.ofInt v5)), (6, .long (Int64.ofInt v6)), (8, .int (Int32.ofInt v8))]) hx hb dX6_stretchBegin_71 hl (by decide) rfl (fun ls hl => ?_)
          refine lv_lload hx hb dX6_stretchBegin_73 (lv_at hl 6 rfl) ?_
          refine lv_lload hx hb dX6_stretchBegin_75 (lv_at hl 0 rfl) ?_
          obtain ⟨S16, x18, hk17, h⟩ := ob2_at h
          refine cl_Si (As := [.long (Int64.ofInt v6), .long (Int64.ofInt x15)]) (rest := []) hc k_X2_less q_453 (c_X2_less hk17) hP hS rfl hl (Nat.le_of_ble_eq_true rfl) dX6_stretchBegin_77 (Nat.le_of_ble_eq_true rfl) (Nat.le_of_ble_eq_true rfl) rfl (fun H locs hP hS => ?_)
          obtain ⟨h19, h⟩ := chk_at h
          refine z_if_eq (tgt := 88) hx hb h19 dX6_stretchBegin_80 (by decide) (fun hq => ?_) (fun hq => ?_)
          · replace h := if_yes hq h
            refine lv_lload hx hb dX6_stretchBegin_88 (lv_at hl 6 rfl) ?_
            refine lv_lstore (lv' := [(6, .long (Int64.ofInt v6)), (11, .long (Int64.ofInt x15)), (10, .int (Int32.ofInt x8)), (9, .int (Int32.ofInt x6)), (0, .ref (a 2)), (4, .int (Int32.ofInt v4)), (5, .int (Int32.ofInt v5)), (8, .int (Int32.ofInt v8))]) hx hb dX6_stretchBegin_90 hl (by decide) rfl (fun ls hl => ?_)
            obtain ⟨x20, ex20⟩ : ∃ y : Int, y = v8 + (1 : Int) := ⟨_, rfl⟩
            replace h := olet_at ex20 h
            refine lv_iinc (v := Int32.ofInt x20) (lv' := [(8, .int (Int32.ofInt x20)), (6, .long (Int64.ofInt v6)), (11, .long (Int64.ofInt x15)), (10, .int (Int32.ofInt x8)), (9, .int (Int32.ofInt x6)), (0, .ref (a 2)), (4, .int (Int32.ofInt v4)), (5, .int (Int32.ofInt v5))]) hx hb dX6_stretchBegin_92 hl (k := 7) rfl (by rw [ex20, Int32.ofInt_add]) (by decide) rfl (fun ls hl => ?_)
            refine lv_goto (tgt := 20) hx hb dX6_stretchBegin_95 (by decide) ?_
            exact ih S16 v4 v5 v6 x20 h H locs ls hP hS (lv_sub hl [5, 6, 7, 1, 0] rfl)
          · replace h := if_no hq h
            refine lv_lload hx hb dX6_stretchBegin_83 (lv_at hl 0 rfl) ?_
            refine lv_goto (tgt := 90) hx hb dX6_stretchBegin_85 (by decide) ?_
            refine lv_lstore (lv' := [(6, .long (Int64.ofInt x15)), (11, .long (Int64.ofInt x15)), (10, .int (Int32.ofInt x8)), (9, .int (Int32.ofInt x6)), (0, .ref (a 2)), (4, .int (Int32.ofInt v4)), (5, .int (Int32.ofInt v5)), (8, .int (Int32.ofInt v8))]) hx hb dX6_stretchBegin_90 hl (by decide) rfl (fun ls hl => ?_)
            obtain ⟨x21, ex21⟩ : ∃ y : Int, y = v8 + (1 : Int) := ⟨_, rfl⟩
            replace h := olet_at ex21 h
            refine lv_iinc (v := Int32.ofInt x21) (lv' := [(8, .int (Int32.ofInt x21)), (6, .long (Int64.ofInt x15)), (11, .long (Int64.ofInt x15)), (10, .int (Int32.ofInt x8)), (9, .int (Int32.ofInt x6)), (0, .ref (a 2)), (4, .int (Int32.ofInt v4)), (5, .int (Int32.ofInt v5))]) hx hb dX6_stretchBegin_92 hl (k := 7) rfl (by rw [ex21, Int32.ofInt_add]) (by decide) rfl (fun ls hl => ?_)
            refine lv_goto (tgt := 20) hx hb dX6_stretchBegin_95 (by decide) ?_
            exact ih S16 v4 v5 x15 x21 h H locs ls hP hS (lv_sub hl [5, 6, 7, 1, 0] rfl)
set_option maxHeartbeats 4000000 in
set_option maxRecDepth 100000 in
theorem t_X6_stretchBegin {z : SZ × Int} (hc : Cx p R s m args c D (tysWX g) A (WX a g) cX6_stretchBegin 13 RX6 1 27) (hr : Rtl p l e R s m args below meth c Q D A (WX a g) cX6_stretchBegin (em z.1, Int64.ofInt z.2)) : ∀ (S : SZ) (v1 : Int) (v2 : Int) (v3 : Int), f_X6_stretchBegin S v1 v2 v3 = some z → Go p l e R s m args below meth c Q D A (WX a g) 13 (em S) 0 [(0, .ref (a 2)), (1, .int (Int32.ofInt v1)), (2, .int (Int32.ofInt v2)), (3, .int (Int32.ofInt v3))] [] := by
  obtain ⟨⟨hx, hb, hml, hown, hts⟩, -, -, -, hnf, hno⟩ := id hc
  intro S v1 v2 v3 h H locs ls hP hS hl
  rw [f_X6_stretchBegin] at h
  replace hl : lv_has ls 13 [(0, .ref (a 2)), (1, .int (Int32.ofInt v1)), (2, .int (Int32.ofInt v2)), (3, .int (Int32.ofInt v3))] := hl
  refine lv_iload_n hx hb dX6_stretchBegin_0 rfl (lv_at hl 3 rfl) ?_
  refine lv_iload_n hx hb dX6_stretchBegin_1 rfl (lv_at hl 1 rfl) ?_
  obtain ⟨S1, x3, hk2, h⟩ := ob2_at h
  refine cl_Si (As := [.int (Int32.ofInt v3), .int (Int32.ofInt v1)]) (rest := []) hc k_X6_rowOf q_364 (c_X6_rowOf hk2) hP hS rfl hl (Nat.le_of_ble_eq_true rfl) dX6_stretchBegin_2 (Nat.le_of_ble_eq_true rfl) (Nat.le_of_ble_eq_true rfl) rfl (fun H locs hP hS => ?_)
  refine lv_istore (lv' := [(4, .int (Int32.ofInt x3)), (0, .ref (a 2)), (1, .int (Int32.ofInt v1)), (2, .int (Int32.ofInt v2)), (3, .int (Int32.ofInt v3))]) hx hb dX6_stretchBegin_5 hl (by decide) rfl (fun ls hl => ?_)
  refine lv_iload_n hx hb dX6_stretchBegin_7 rfl (lv_at hl 4 rfl) ?_
  refine lv_iload_n hx hb dX6_stretchBegin_8 rfl (lv_at hl 3 rfl) ?_
  obtain ⟨S4, x6, hk5, h⟩ := ob2_at h
  refine cl_Si (As := [.int (Int32.ofInt v3), .int (Int32.ofInt v2)]) (rest := []) hc k_X6_rowOf q_364 (c_X6_rowOf hk5) hP hS rfl hl (Nat.le_of_ble_eq_true rfl) dX6_stretchBegin_9 (Nat.le_of_ble_eq_true rfl) (Nat.le_of_ble_eq_true rfl) rfl (fun H locs hP hS => ?_)
  refine lv_istore (lv' := [(5, .int (Int32.ofInt x6)), (4, .int (Int32.ofInt x3)), (0, .ref (a 2)), (1, .int (Int32.ofInt v1)), (2, .int (Int32.ofInt v2)), (3, .int (Int32.ofInt v3))]) hx hb dX6_stretchBegin_12 hl (by decide) rfl (fun ls hl => ?_)
  refine lv_lconst (v := Int64.ofInt (1 : Int)) hx hb dX6_stretchBegin_14 (by decide) ?_
  refine lv_lstore (lv' := [(6, .long (Int64.ofInt (1 : Int))), (5, .int (Int32.ofInt x6)), (4, .int (Int32.ofInt x3)), (0, .ref (a 2)), (1, .int (Int32.ofInt v1)), (2, .int (Int32.ofInt v2)), (3, .int (Int32.ofInt v3))]) hx hb dX6_stretchBegin_15 hl (by decide) rfl (fun ls hl => ?_)
  refine lv_iconst (v := Int32.ofInt (0 : Int)) hx hb dX6_stretchBegin_17 (by decide) ?_
  refine lv_istore (lv' := [(8, .int (Int32.ofInt (0 : Int))), (6, .long (Int64.ofInt (1 : Int))), (5, .int (Int32.ofInt x6)), (4, .int (Int32.ofInt x3)), (0, .ref (a 2)), (1, .int (Int32.ofInt v1)), (2, .int (Int32.ofInt v2)), (3, .int (Int32.ofInt v3))]) hx hb dX6_stretchBegin_18 hl (by decide) rfl (fun ls hl => ?_)
  exact t_X6_stretchBegin_p20 hc hr FU S4 x3 x6 (1 : Int) (0 : Int) h H locs ls hP hS (lv_sub hl [4, 3, 2, 1, 0] rfl)
abbrev rm_X6_stretchBegin : Room := { frames := 1, cells := 0, slots := 0, locals := 27 }
theorem c_X6_stretchBegin {l : Launch} {D : va_G} {a : Nat → Nat} {g : Nat → ClassId} {S : SZ} {v1 : Int} {v2 : Int} {v3 : Int} {Z1 : SZ} {r1 : Int} (h : f_X6_stretchBegin S v1 v2 v3 = some (Z1, r1)) : MetL l D (tysWX g) (WX a g) E0 yX6_stretchBegin cX6_stretchBegin 13 (some .long) rm_X6_stretchBegin [.ref (a 2), .int (Int32.ofInt v1), .int (Int32.ofInt v2), .int (Int32.ofInt v3)] (em S) (em Z1, Int64.ofInt r1) := mk_l (WX_same a g) (by decide) (em Z1, Int64.ofInt r1) (Nat.le_of_ble_eq_true rfl) (fun p e s m args below meth c A Q hc hE hr => t_X6_stretchBegin (z := (Z1, r1)) hc hr S v1 v2 v3 h)
theorem k_X6_stretchBegin : CalV RX6 yX6_stretchBegin cX6_stretchBegin 13 (some .long) rm_X6_stretchBegin 3 := ⟨q_460, q_461, q_18, q_462, by decide +kernel, rfl, rfl⟩
set_option maxHeartbeats 4000000 in
set_option maxRecDepth 100000 in
theorem t_X6_countHiding_p37 {z : SZ × Int} (hc : Cx p R s m args c D (tysWX g) A (WX a g) cX6_countHiding 11 RX6 1 21) (hr : Rti p l e R s m args below meth c Q D A (WX a g) cX6_countHiding (em z.1, Int32.ofInt z.2)) {k6 : SZ → Int → Int → Int → Int → Int → Int → Option (SZ × Int)} (K6 : ∀ (S : SZ) (v1 : Int) (v2 : Int) (v3 : Int) (v4 : Int) (v5 : Int) (v6 : Int), k6 S v1 v2 v3 v4 v5 v6 = some z → Go p l e R s m args below meth c Q D A (WX a g) 11 (em S) 6 [(0, .ref (a 2)), (1, .int (Int32.ofInt v1)), (2, .int (Int32.ofInt v2)), (3, .int (Int32.ofInt v3)), (4, .int (Int32.ofInt v4)), (5, .int (Int32.ofInt v5)), (6, .int (Int32.ofInt v6))] []) : ∀ (fu : Nat) (S : SZ) (v1 : Int) (v2 : Int) (v3 : Int) (v4 : Int) (v5 : Int) (v6 : Int) (v7 : Int) (v8 : Int) (v9 : Int) (v10 : Int), f_X6_countHiding_p37 k6 fu S v1 v2 v3 v4 v5 v6 v7 v8 v9 v10 = some z → Go p l e R s m args below meth c Q D A (WX a g) 11 (em S) 37 [(0, .ref (a 2)), (1, .int (Int32.ofInt v1)), (2, .int (Int32.ofInt v2)), (3, .int (Int32.ofInt v3)), (4, .int (Int32.ofInt v4)), (5, .int (Int32.ofInt v5)), (6, .int (Int32.ofInt v6)), (7, .int (Int32.ofInt v7)), (8, .int (Int32.ofInt v8)), (9, .int (Int32.ofInt v9)), (10, .int (Int32.ofInt v10))] [] := by
  obtain ⟨⟨hx, hb, hml, hown, hts⟩, -, -, -, hnf, hno⟩ := id hc
  intro fu
  induction fu with
  | zero =>
    intro S v1 v2 v3 v4 v5 v6 v7 v8 v9 v10 h
    rw [f_X6_countHiding_p37] at h
    cases h
  | succ fu ih =>
    intro S v1 v2 v3 v4 v5 v6 v7 v8 v9 v10 h H locs ls hP hS hl
    rw [f_X6_countHiding_p37] at h
    refine lv_iload hx hb dX6_countHiding_37 (lv_at hl 10 rfl) ?_
    refine lv_iconst (v := Int32.ofInt (4 : Int)) hx hb dX6_countHiding_39 (by decide) ?_
    obtain ⟨h1, h⟩ := chk_at h
    refine z_icmp_ge (tgt := 92) hx hb h1 (by decide) dX6_countHiding_40 (by decide) (fun hq => ?_) (fun hq => ?_)
    · replace h := if_yes hq h
      refine lv_iload hx hb dX6_countHiding_92 (lv_at hl 9 rfl) ?_
      obtain ⟨h2, h⟩ := chk_at h
      refine z_if_eq (tgt := 100) hx hb h2 dX6_countHiding_94 (by decide) (fun hq => ?_) (fun hq => ?_)
      · replace h := if_yes hq h
        obtain ⟨x3, ex3⟩ : ∃ y : Int, y = v6 + (1 : Int) := ⟨_, rfl⟩
        replace h := olet_at ex3 h
        refine lv_iinc (v := Int32.ofInt x3) (lv' := [(6, .int (Int32.ofInt x3)), (0, .ref (a 2)), (1, .int (Int32.ofInt v1)), (2, .int (Int32.ofInt v2)), (3, .int (Int32.ofInt v3)), (4, .int (Int32.ofInt v4)), (5, .int (Int32.ofInt v5)), (7, .int (Int32.ofInt v7)), (8, .int (Int32.ofInt v8)), (9, .int (Int32.ofInt v9)), (10, .int (Int32.ofInt v10))]) hx hb dX6_countHiding_100 hl (k := 6) rfl (by rw [ex3, Int32.ofInt_add]) (by decide) rfl (fun ls hl => ?_)
        refine lv_goto (tgt := 6) hx hb dX6_countHiding_103 (by decide) ?_
        exact K6 S v1 v2 v3 v4 v5 x3 h H locs ls hP hS (lv_sub hl [1, 2, 3, 4, 5, 6, 0] rfl)
      · replace h := if_no hq h
        obtain ⟨x4, ex4⟩ : ∃ y : Int, y = v5 + (1 : Int) := ⟨_, rfl⟩
        replace h := olet_at ex4 h
        refine lv_iinc (v := Int32.ofInt x4) (lv' := [(5, .int (Int32.ofInt x4)), (0, .ref (a 2)), (1, .int (Int32.ofInt v1)), (2, .int (Int32.ofInt v2)), (3, .int (Int32.ofInt v3)), (4, .int (Int32.ofInt v4)), (6, .int (Int32.ofInt v6)), (7, .int (Int32.ofInt v7)), (8, .int (Int32.ofInt v8)), (9, .int (Int32.ofInt v9)), (10, .int (Int32.ofInt v10))]) hx hb dX6_countHiding_97 hl (k := 5) rfl (by rw [ex4, Int32.ofInt_add]) (by decide) rfl (fun ls hl => ?_)
        obtain ⟨x5, ex5⟩ : ∃ y : Int, y = v6 + (1 : Int) := ⟨_, rfl⟩
        replace h := olet_at ex5 h
        refine lv_iinc (v := Int32.ofInt x5) (lv' := [(6, .int (Int32.ofInt x5)), (5, .int (Int32.ofInt x4)), (0, .ref (a 2)), (1, .int (Int32.ofInt v1)), (2, .int (Int32.ofInt v2)), (3, .int (Int32.ofInt v3)), (4, .int (Int32.ofInt v4)), (7, .int (Int32.ofInt v7)), (8, .int (Int32.ofInt v8)), (9, .int (Int32.ofInt v9)), (10, .int (Int32.ofInt v10))]) hx hb dX6_countHiding_100 hl (k := 6) rfl (by rw [ex5, Int32.ofInt_add]) (by decide) rfl (fun ls hl => ?_)
        refine lv_goto (tgt := 6) hx hb dX6_countHiding_103 (by decide) ?_
        exact K6 S v1 v2 v3 v4 x4 x5 h H locs ls hP hS (lv_sub hl [2, 3, 4, 5, 6, 1, 0] rfl)
    · replace h := if_no hq h
      refine lv_iload hx hb dX6_countHiding_43 (lv_at hl 9 rfl) ?_
      obtain ⟨h6, h⟩ := chk_at h
      refine z_if_eq (tgt := 92) hx hb h6 dX6_countHiding_45 (by decide) (fun hq => ?_) (fun hq => ?_)
      · replace h := if_yes hq h
        refine lv_iload hx hb dX6_countHiding_92 (lv_at hl 9 rfl) ?_
        refine z_if_eq (tgt := 100) hx hb h6 dX6_countHiding_94 (by decide) (fun hq => ?_) (fun hq => ?_)
        · replace h := if_yes hq h
          obtain ⟨x7, ex7⟩ : ∃ y : Int, y = v6 + (1 : Int) := ⟨_, rfl⟩
          replace h := olet_at ex7 h
          refine lv_iinc (v := Int32.ofInt x7) (lv' := [(6, .int (Int32.ofInt x7)), (0, .ref (a 2)), (1, .int (Int32.ofInt v1)), (2, .int (Int32.ofInt v2)), (3, .int (Int32.ofInt v3)), (4, .int (Int32.ofInt v4)), (5, .int (Int32.ofInt v5)), (7, .int (Int32.ofInt v7)), (8, .int (Int32.ofInt v8)), (9, .int (Int32.ofInt v9)), (10, .int (Int32.ofInt v10))]) hx hb dX6_countHiding_100 hl (k := 6) rfl (by rw [ex7, Int32.ofInt_add]) (by decide) rfl (fun ls hl => ?_)
          refine lv_goto (tgt := 6) hx hb dX6_countHiding_103 (by decide) ?_
          exact K6 S v1 v2 v3 v4 v5 x7 h H locs ls hP hS (lv_sub hl [1, 2, 3, 4, 5, 6, 0] rfl)
        · replace h := if_no hq h
          obtain ⟨x8, ex8⟩ : ∃ y : Int, y = v5 + (1 : Int) := ⟨_, rfl⟩
          replace h := olet_at ex8 h
          refine lv_iinc (v := Int32.ofInt x8) (lv' := [(5, .int (Int32.ofInt x8)), (0, .ref (a 2)), (1, .int (Int32.ofInt v1)), (2, .int (Int32.ofInt v2)), (3, .int (Int32.ofInt v3)), (4, .int (Int32.ofInt v4)), (6, .int (Int32.ofInt v6)), (7, .int (Int32.ofInt v7)), (8, .int (Int32.ofInt v8)), (9, .int (Int32.ofInt v9)), (10, .int (Int32.ofInt v10))]) hx hb dX6_countHiding_97 hl (k := 5) rfl (by rw [ex8, Int32.ofInt_add]) (by decide) rfl (fun ls hl => ?_)
          obtain ⟨x9, ex9⟩ : ∃ y : Int, y = v6 + (1 : Int) := ⟨_, rfl⟩
          replace h := olet_at ex9 h
          refine lv_iinc (v := Int32.ofInt x9) (lv' := [(6, .int (Int32.ofInt x9)), (5, .int (Int32.ofInt x8)), (0, .ref (a 2)), (1, .int (Int32.ofInt v1)), (2, .int (Int32.ofInt v2)), (3, .int (Int32.ofInt v3)), (4, .int (Int32.ofInt v4)), (7, .int (Int32.ofInt v7)), (8, .int (Int32.ofInt v8)), (9, .int (Int32.ofInt v9)), (10, .int (Int32.ofInt v10))]) hx hb dX6_countHiding_100 hl (k := 6) rfl (by rw [ex9, Int32.ofInt_add]) (by decide) rfl (fun ls hl => ?_)
          refine lv_goto (tgt := 6) hx hb dX6_countHiding_103 (by decide) ?_
          exact K6 S v1 v2 v3 v4 x8 x9 h H locs ls hP hS (lv_sub hl [2, 3, 4, 5, 6, 1, 0] rfl)
      · replace h := if_no hq h
        refine lv_aload_n hx hb dX6_countHiding_48 rfl (lv_at hl 0 rfl) ?_
        refine gfWX_Sight_margin hc hP q_60 dX6_countHiding_49 ?_
        refine lv_iload hx hb dX6_countHiding_52 (lv_at hl 7 rfl) ?_
        refine lv_iload hx hb dX6_countHiding_54 (lv_at hl 10 rfl) ?_
        refine z_iadd hx hb dX6_countHiding_56 ?_
        obtain ⟨h10, h⟩ := chk_at h
        refine azWX_Sight_margin hc hP h10 dX6_countHiding_57 ?_
        refine lv_iload hx hb dX6_countHiding_58 (lv_at hl 4 rfl) ?_
        refine lv_iload_n hx hb dX6_countHiding_60 rfl (lv_at hl 3 rfl) ?_
        refine z_isub hx hb dX6_countHiding_61 ?_
        refine z_imul hx hb dX6_countHiding_62 ?_
        refine lv_aload_n hx hb dX6_countHiding_63 rfl (lv_at hl 0 rfl) ?_
        refine gfWX_Sight_margin hc hP q_60 dX6_countHiding_64 ?_
        refine lv_iload hx hb dX6_countHiding_67 (lv_at hl 8 rfl) ?_
        refine lv_iload hx hb dX6_countHiding_69 (lv_at hl 10 rfl) ?_
        refine z_iadd hx hb dX6_countHiding_71 ?_
        obtain ⟨h11, h⟩ := chk_at h
        refine azWX_Sight_margin hc hP h11 dX6_countHiding_72 ?_
        refine lv_iload_n hx hb dX6_countHiding_73 rfl (lv_at hl 3 rfl) ?_
        refine z_imul hx hb dX6_countHiding_74 ?_
        refine z_iadd hx hb dX6_countHiding_75 ?_
        obtain ⟨h12, h⟩ := chk_at h
        refine z_if_le (tgt := 83) hx hb h12 dX6_countHiding_76 (by decide) (fun hq => ?_) (fun hq => ?_)
        · replace h := if_yes hq h
          refine lv_iconst (v := Int32.ofInt (0 : Int)) hx hb dX6_countHiding_83 (by decide) ?_
          refine lv_istore (lv' := [(9, .int (Int32.ofInt (0 : Int))), (0, .ref (a 2)), (1, .int (Int32.ofInt v1)), (2, .int (Int32.ofInt v2)), (3, .int (Int32.ofInt v3)), (4, .int (Int32.ofInt v4)), (5, .int (Int32.ofInt v5)), (6, .int (Int32.ofInt v6)), (7, .int (Int32.ofInt v7)), (8, .int (Int32.ofInt v8)), (10, .int (Int32.ofInt v10))]) hx hb dX6_countHiding_84 hl (by decide) rfl (fun ls hl => ?_)
          obtain ⟨x13, ex13⟩ : ∃ y : Int, y = v10 + (1 : Int) := ⟨_, rfl⟩
          replace h := olet_at ex13 h
          refine lv_iinc (v := Int32.ofInt x13) (lv' := [(10, .int (Int32.ofInt x13)), (9, .int (Int32.ofInt (0 : Int))), (0, .ref (a 2)), (1, .int (Int32.ofInt v1)), (2, .int (Int32.ofInt v2)), (3, .int (Int32.ofInt v3)), (4, .int (Int32.ofInt v4)), (5, .int (Int32.ofInt v5)), (6, .int (Int32.ofInt v6)), (7, .int (Int32.ofInt v7)), (8, .int (Int32.ofInt v8))]) hx hb dX6_countHiding_86 hl (k := 10) rfl (by rw [ex13, Int32.ofInt_add]) (by decide) rfl (fun ls hl => ?_)
          refine lv_goto (tgt := 37) hx hb dX6_countHiding_89 (by decide) ?_
          exact ih S v1 v2 v3 v4 v5 v6 v7 v8 (0 : Int) x13 h H locs ls hP hS (lv_sub hl [2, 3, 4, 5, 6, 7, 8, 9, 10, 1, 0] rfl)
        · replace h := if_no hq h
          refine lv_iconst (v := Int32.ofInt (1 : Int)) hx hb dX6_countHiding_79 (by decide) ?_
          refine lv_goto (tgt := 84) hx hb dX6_countHiding_80 (by decide) ?_
          refine lv_istore (lv' := [(9, .int (Int32.ofInt (1 : Int))), (0, .ref (a 2)), (1, .int (Int32.ofInt v1)), (2, .int (Int32.ofInt v2)), (3, .int (Int32.ofInt v3)), (4, .int (Int32.ofInt v4)), (5, .int (Int32.ofInt v5)), (6, .int (Int32.ofInt v6)), (7, .int (Int32.ofInt v7)), (8, .int (Int32.ofInt v8)), (10, .int (Int32.ofInt v10))]) hx hb dX6_countHiding_84 hl (by decide) rfl (fun ls hl => ?_)
          obtain ⟨x14, ex14⟩ : ∃ y : Int, y = v10 + (1 : Int) := ⟨_, rfl⟩
          replace h := olet_at ex14 h
          refine lv_iinc (v := Int32.ofInt x14) (lv' := [(10, .int (Int32.ofInt x14)), (9, .int (Int32.ofInt (1 : Int))), (0, .ref (a 2)), (1, .int (Int32.ofInt v1)), (2, .int (Int32.ofInt v2)), (3, .int (Int32.ofInt v3)), (4, .int (Int32.ofInt v4)), (5, .int (Int32.ofInt v5)), (6, .int (Int32.ofInt v6)), (7, .int (Int32.ofInt v7)), (8, .int (Int32.ofInt v8))]) hx hb dX6_countHiding_86 hl (k := 10) rfl (by rw [ex14, Int32.ofInt_add]) (by decide) rfl (fun ls hl => ?_)
          refine lv_goto (tgt := 37) hx hb dX6_countHiding_89 (by decide) ?_
          exact ih S v1 v2 v3 v4 v5 v6 v7 v8 (1 : Int) x14 h H locs ls hP hS (lv_sub hl [2, 3, 4, 5, 6, 7, 8, 9, 10, 1, 0] rfl)
set_option maxHeartbeats 4000000 in
set_option maxRecDepth 100000 in
theorem t_X6_countHiding_p6 {z : SZ × Int} (hc : Cx p R s m args c D (tysWX g) A (WX a g) cX6_countHiding 11 RX6 1 21) (hr : Rti p l e R s m args below meth c Q D A (WX a g) cX6_countHiding (em z.1, Int32.ofInt z.2)) : ∀ (fu : Nat) (S : SZ) (v1 : Int) (v2 : Int) (v3 : Int) (v4 : Int) (v5 : Int) (v6 : Int), f_X6_countHiding_p6 fu S v1 v2 v3 v4 v5 v6 = some z → Go p l e R s m args below meth c Q D A (WX a g) 11 (em S) 6 [(0, .ref (a 2)), (1, .int (Int32.ofInt v1)), (2, .int (Int32.ofInt v2)), (3, .int (Int32.ofInt v3)), (4, .int (Int32.ofInt v4)), (5, .int (Int32.ofInt v5)), (6, .int (Int32.ofInt v6))] [] := by
  obtain ⟨⟨hx, hb, hml, hown, hts⟩, -, -, -, hnf, hno⟩ := id hc
  intro fu
  induction fu with
  | zero =>
    intro S v1 v2 v3 v4 v5 v6 h
    rw [f_X6_countHiding_p6] at h
    cases h
  | succ fu ih =>
    intro S v1 v2 v3 v4 v5 v6 h H locs ls hP hS hl
    rw [f_X6_countHiding_p6] at h
    refine lv_iload hx hb dX6_countHiding_6 (lv_at hl 6 rfl) ?_
    refine lv_aload_n hx hb dX6_countHiding_8 rfl (lv_at hl 0 rfl) ?_
    refine gzWX_Sight_faces hc hP q_341 dX6_countHiding_9 ?_
    obtain ⟨h1, h⟩ := chk_at h
    obtain ⟨h2, h⟩ := chk_at h
    refine z_icmp_ge (tgt := 106) hx hb h1 h2 dX6_countHiding_12 (by decide) (fun hq => ?_) (fun hq => ?_)
    · replace h := if_yes hq h
      refine lv_iload hx hb dX6_countHiding_106 (lv_at hl 5 rfl) ?_
      obtain rfl := Option.some.inj h
      exact hr _ _ _ _ dX6_countHiding_108 hP hS
    · replace h := if_no hq h
      refine lv_iload hx hb dX6_countHiding_15 (lv_at hl 6 rfl) ?_
      refine lv_iload_n hx hb dX6_countHiding_17 rfl (lv_at hl 1 rfl) ?_
      obtain ⟨S3, x5, hk4, h⟩ := ob2_at h
      refine cl_Si (As := [.int (Int32.ofInt v6), .int (Int32.ofInt v1)]) (rest := []) hc k_X6_rowOf q_364 (c_X6_rowOf hk4) hP hS rfl hl (Nat.le_of_ble_eq_true rfl) dX6_countHiding_18 (Nat.le_of_ble_eq_true rfl) (Nat.le_of_ble_eq_true rfl) rfl (fun H locs hP hS => ?_)
      refine lv_istore (lv' := [(7, .int (Int32.ofInt x5)), (0, .ref (a 2)), (1, .int (Int32.ofInt v1)), (2, .int (Int32.ofInt v2)), (3, .int (Int32.ofInt v3)), (4, .int (Int32.ofInt v4)), (5, .int (Int32.ofInt v5)), (6, .int (Int32.ofInt v6))]) hx hb dX6_countHiding_21 hl (by decide) rfl (fun ls hl => ?_)
      refine lv_iload hx hb dX6_countHiding_23 (lv_at hl 7 rfl) ?_
      refine lv_iload_n hx hb dX6_countHiding_25 rfl (lv_at hl 3 rfl) ?_
      obtain ⟨S6, x8, hk7, h⟩ := ob2_at h
      refine cl_Si (As := [.int (Int32.ofInt v6), .int (Int32.ofInt v2)]) (rest := []) hc k_X6_rowOf q_364 (c_X6_rowOf hk7) hP hS rfl hl (Nat.le_of_ble_eq_true rfl) dX6_countHiding_26 (Nat.le_of_ble_eq_true rfl) (Nat.le_of_ble_eq_true rfl) rfl (fun H locs hP hS => ?_)
      refine lv_istore (lv' := [(8, .int (Int32.ofInt x8)), (7, .int (Int32.ofInt x5)), (0, .ref (a 2)), (1, .int (Int32.ofInt v1)), (2, .int (Int32.ofInt v2)), (3, .int (Int32.ofInt v3)), (4, .int (Int32.ofInt v4)), (5, .int (Int32.ofInt v5)), (6, .int (Int32.ofInt v6))]) hx hb dX6_countHiding_29 hl (by decide) rfl (fun ls hl => ?_)
      refine lv_iconst (v := Int32.ofInt (1 : Int)) hx hb dX6_countHiding_31 (by decide) ?_
      refine lv_istore (lv' := [(9, .int (Int32.ofInt (1 : Int))), (8, .int (Int32.ofInt x8)), (7, .int (Int32.ofInt x5)), (0, .ref (a 2)), (1, .int (Int32.ofInt v1)), (2, .int (Int32.ofInt v2)), (3, .int (Int32.ofInt v3)), (4, .int (Int32.ofInt v4)), (5, .int (Int32.ofInt v5)), (6, .int (Int32.ofInt v6))]) hx hb dX6_countHiding_32 hl (by decide) rfl (fun ls hl => ?_)
      refine lv_iconst (v := Int32.ofInt (0 : Int)) hx hb dX6_countHiding_34 (by decide) ?_
      refine lv_istore (lv' := [(10, .int (Int32.ofInt (0 : Int))), (9, .int (Int32.ofInt (1 : Int))), (8, .int (Int32.ofInt x8)), (7, .int (Int32.ofInt x5)), (0, .ref (a 2)), (1, .int (Int32.ofInt v1)), (2, .int (Int32.ofInt v2)), (3, .int (Int32.ofInt v3)), (4, .int (Int32.ofInt v4)), (5, .int (Int32.ofInt v5)), (6, .int (Int32.ofInt v6))]) hx hb dX6_countHiding_35 hl (by decide) rfl (fun ls hl => ?_)
      exact t_X6_countHiding_p37 hc hr ih FU S6 v1 v2 v3 v4 v5 v6 x5 x8 (1 : Int) (0 : Int) h H locs ls hP hS (lv_sub hl [4, 5, 6, 7, 8, 9, 10, 3, 2, 1, 0] rfl)
set_option maxHeartbeats 4000000 in
set_option maxRecDepth 100000 in
theorem t_X6_countHiding {z : SZ × Int} (hc : Cx p R s m args c D (tysWX g) A (WX a g) cX6_countHiding 11 RX6 1 21) (hr : Rti p l e R s m args below meth c Q D A (WX a g) cX6_countHiding (em z.1, Int32.ofInt z.2)) : ∀ (S : SZ) (v1 : Int) (v2 : Int) (v3 : Int) (v4 : Int), f_X6_countHiding S v1 v2 v3 v4 = some z → Go p l e R s m args below meth c Q D A (WX a g) 11 (em S) 0 [(0, .ref (a 2)), (1, .int (Int32.ofInt v1)), (2, .int (Int32.ofInt v2)), (3, .int (Int32.ofInt v3)), (4, .int (Int32.ofInt v4))] [] := by
  obtain ⟨⟨hx, hb, hml, hown, hts⟩, -, -, -, hnf, hno⟩ := id hc
  intro S v1 v2 v3 v4 h H locs ls hP hS hl
  rw [f_X6_countHiding] at h
  replace hl : lv_has ls 11 [(0, .ref (a 2)), (1, .int (Int32.ofInt v1)), (2, .int (Int32.ofInt v2)), (3, .int (Int32.ofInt v3)), (4, .int (Int32.ofInt v4))] := hl
  refine lv_iconst (v := Int32.ofInt (0 : Int)) hx hb dX6_countHiding_0 (by decide) ?_
  refine lv_istore (lv' := [(5, .int (Int32.ofInt (0 : Int))), (0, .ref (a 2)), (1, .int (Int32.ofInt v1)), (2, .int (Int32.ofInt v2)), (3, .int (Int32.ofInt v3)), (4, .int (Int32.ofInt v4))]) hx hb dX6_countHiding_1 hl (by decide) rfl (fun ls hl => ?_)
  refine lv_iconst (v := Int32.ofInt (0 : Int)) hx hb dX6_countHiding_3 (by decide) ?_
  refine lv_istore (lv' := [(6, .int (Int32.ofInt (0 : Int))), (5, .int (Int32.ofInt (0 : Int))), (0, .ref (a 2)), (1, .int (Int32.ofInt v1)), (2, .int (Int32.ofInt v2)), (3, .int (Int32.ofInt v3)), (4, .int (Int32.ofInt v4))]) hx hb dX6_countHiding_4 hl (by decide) rfl (fun ls hl => ?_)
  exact t_X6_countHiding_p6 hc hr FU S v1 v2 v3 v4 (0 : Int) (0 : Int) h H locs ls hP hS (lv_sub hl [2, 3, 4, 5, 6, 1, 0] rfl)
abbrev rm_X6_countHiding : Room := { frames := 1, cells := 0, slots := 0, locals := 21 }
theorem c_X6_countHiding {l : Launch} {D : va_G} {a : Nat → Nat} {g : Nat → ClassId} {S : SZ} {v1 : Int} {v2 : Int} {v3 : Int} {v4 : Int} {Z1 : SZ} {r1 : Int} (h : f_X6_countHiding S v1 v2 v3 v4 = some (Z1, r1)) : MetI l D (tysWX g) (WX a g) E0 yX6_countHiding cX6_countHiding 11 (some .int) rm_X6_countHiding [.ref (a 2), .int (Int32.ofInt v1), .int (Int32.ofInt v2), .int (Int32.ofInt v3), .int (Int32.ofInt v4)] (em S) (em Z1, Int32.ofInt r1) := mk_i (WX_same a g) (by decide) (em Z1, Int32.ofInt r1) (Nat.le_of_ble_eq_true rfl) (fun p e s m args below meth c A Q hc hE hr => t_X6_countHiding (z := (Z1, r1)) hc hr S v1 v2 v3 v4 h)
theorem k_X6_countHiding : CalV RX6 yX6_countHiding cX6_countHiding 11 (some .int) rm_X6_countHiding 4 := ⟨q_528, q_529, q_18, q_530, by decide +kernel, rfl, rfl⟩
set_option maxHeartbeats 4000000 in
set_option maxRecDepth 100000 in
theorem t_X6_countToEye_p4 {z : SZ × Int} (hc : Cx p R s m args c D (tysWX g) A (WX a g) cX6_countToEye 3 RX6 0 0) (hr : Rti p l e R s m args below meth c Q D A (WX a g) cX6_countToEye (em z.1, Int32.ofInt z.2)) : ∀ (fu : Nat) (S : SZ) (v1 : Int) (v2 : Int), f_X6_countToEye_p4 fu S v1 v2 = some z → Go p l e R s m args below meth c Q D A (WX a g) 3 (em S) 4 [(0, .ref (a 2)), (1, .int (Int32.ofInt v1)), (2, .int (Int32.ofInt v2))] [] := by
  obtain ⟨⟨hx, hb, hml, hown, hts⟩, -, -, -, hnf, hno⟩ := id hc
  intro fu
  induction fu with
  | zero =>
    intro S v1 v2 h
    rw [f_X6_countToEye_p4] at h
    cases h
  | succ fu ih =>
    intro S v1 v2 h H locs ls hP hS hl
    rw [f_X6_countToEye_p4] at h
    refine lv_iload_n hx hb dX6_countToEye_4 rfl (lv_at hl 2 rfl) ?_
    refine lv_aload_n hx hb dX6_countToEye_5 rfl (lv_at hl 0 rfl) ?_
    refine gzWX_Sight_faces hc hP q_341 dX6_countToEye_6 ?_
    obtain ⟨h1, h⟩ := chk_at h
    obtain ⟨h2, h⟩ := chk_at h
    refine z_icmp_ge (tgt := 30) hx hb h1 h2 dX6_countToEye_9 (by decide) (fun hq => ?_) (fun hq => ?_)
    · replace h := if_yes hq h
      refine lv_iload_n hx hb dX6_countToEye_30 rfl (lv_at hl 1 rfl) ?_
      obtain rfl := Option.some.inj h
      exact hr _ _ _ _ dX6_countToEye_31 hP hS
    · replace h := if_no hq h
      refine lv_aload_n hx hb dX6_countToEye_12 rfl (lv_at hl 0 rfl) ?_
      refine gfWX_Sight_swing hc hP q_62 dX6_countToEye_13 ?_
      refine lv_iload_n hx hb dX6_countToEye_16 rfl (lv_at hl 2 rfl) ?_
      obtain ⟨h3, h⟩ := chk_at h
      refine azWX_Sight_swing hc hP h3 dX6_countToEye_17 ?_
      obtain ⟨h4, h⟩ := chk_at h
      refine z_if_le (tgt := 24) hx hb h4 dX6_countToEye_18 (by decide) (fun hq => ?_) (fun hq => ?_)
      · replace h := if_yes hq h
        obtain ⟨x5, ex5⟩ : ∃ y : Int, y = v2 + (1 : Int) := ⟨_, rfl⟩
        replace h := olet_at ex5 h
        refine lv_iinc (v := Int32.ofInt x5) (lv' := [(2, .int (Int32.ofInt x5)), (0, .ref (a 2)), (1, .int (Int32.ofInt v1))]) hx hb dX6_countToEye_24 hl (k := 2) rfl (by rw [ex5, Int32.ofInt_add]) (by decide) rfl (fun ls hl => ?_)
        refine lv_goto (tgt := 4) hx hb dX6_countToEye_27 (by decide) ?_
        exact ih S v1 x5 h H locs ls hP hS (lv_sub hl [1, 2, 0] rfl)
      · replace h := if_no hq h
        obtain ⟨x6, ex6⟩ : ∃ y : Int, y = v1 + (1 : Int) := ⟨_, rfl⟩
        replace h := olet_at ex6 h
        refine lv_iinc (v := Int32.ofInt x6) (lv' := [(1, .int (Int32.ofInt x6)), (0, .ref (a 2)), (2, .int (Int32.ofInt v2))]) hx hb dX6_countToEye_21 hl (k := 1) rfl (by rw [ex6, Int32.ofInt_add]) (by decide) rfl (fun ls hl => ?_)
        obtain ⟨x7, ex7⟩ : ∃ y : Int, y = v2 + (1 : Int) := ⟨_, rfl⟩
        replace h := olet_at ex7 h
        refine lv_iinc (v := Int32.ofInt x7) (lv' := [(2, .int (Int32.ofInt x7)), (1, .int (Int32.ofInt x6)), (0, .ref (a 2))]) hx hb dX6_countToEye_24 hl (k := 2) rfl (by rw [ex7, Int32.ofInt_add]) (by decide) rfl (fun ls hl => ?_)
        refine lv_goto (tgt := 4) hx hb dX6_countToEye_27 (by decide) ?_
        exact ih S x6 x7 h H locs ls hP hS (lv_sub hl [2, 1, 0] rfl)
set_option maxHeartbeats 4000000 in
set_option maxRecDepth 100000 in
theorem t_X6_countToEye {z : SZ × Int} (hc : Cx p R s m args c D (tysWX g) A (WX a g) cX6_countToEye 3 RX6 0 0) (hr : Rti p l e R s m args below meth c Q D A (WX a g) cX6_countToEye (em z.1, Int32.ofInt z.2)) : ∀ (S : SZ), f_X6_countToEye S = some z → Go p l e R s m args below meth c Q D A (WX a g) 3 (em S) 0 [(0, .ref (a 2))] [] := by
  obtain ⟨⟨hx, hb, hml, hown, hts⟩, -, -, -, hnf, hno⟩ := id hc
  intro S h H locs ls hP hS hl
  rw [f_X6_countToEye] at h
  replace hl : lv_has ls 3 [(0, .ref (a 2))] := hl
  refine lv_iconst (v := Int32.ofInt (0 : Int)) hx hb dX6_countToEye_0 (by decide) ?_
  refine lv_istore_n (lv' := [(1, .int (Int32.ofInt (0 : Int))), (0, .ref (a 2))]) hx hb dX6_countToEye_1 rfl hl (by decide) rfl (fun ls hl => ?_)
  refine lv_iconst (v := Int32.ofInt (0 : Int)) hx hb dX6_countToEye_2 (by decide) ?_
  refine lv_istore_n (lv' := [(2, .int (Int32.ofInt (0 : Int))), (1, .int (Int32.ofInt (0 : Int))), (0, .ref (a 2))]) hx hb dX6_countToEye_3 rfl hl (by decide) rfl (fun ls hl => ?_)
  exact t_X6_countToEye_p4 hc hr FU S (0 : Int) (0 : Int) h H locs ls hP hS (lv_sub hl [2, 1, 0] rfl)
abbrev rm_X6_countToEye : Room := { frames := 0, cells := 0, slots := 0, locals := 0 }
theorem c_X6_countToEye {l : Launch} {D : va_G} {a : Nat → Nat} {g : Nat → ClassId} {S : SZ} {Z1 : SZ} {r1 : Int} (h : f_X6_countToEye S = some (Z1, r1)) : MetI l D (tysWX g) (WX a g) E0 yX6_countToEye cX6_countToEye 3 (some .int) rm_X6_countToEye [.ref (a 2)] (em S) (em Z1, Int32.ofInt r1) := mk_i (WX_same a g) (by decide) (em Z1, Int32.ofInt r1) (Nat.le_of_ble_eq_true rfl) (fun p e s m args below meth c A Q hc hE hr => t_X6_countToEye (z := (Z1, r1)) hc hr S h)
theorem k_X6_countToEye : CalV RX6 yX6_countToEye cX6_countToEye 3 (some .int) rm_X6_countToEye 0 := ⟨q_825, q_826, q_18, q_827, by decide +kernel, rfl, rfl⟩
end W
