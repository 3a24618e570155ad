section W
variable {p : Program} {l : Launch} {e : Env} {R : Room} {s : State} {m : MethodId} {args : Array Value} {below : List Frame} {meth : Method} {c : Code} {Q : State → Prop} {D : va_G} {A : Nat → Prop} {a : Nat → Nat} {g : Nat → ClassId}
set_option maxHeartbeats 4000000 in
set_option maxRecDepth 100000 in
theorem t_X4_pointAt_p3 {z : St × Int32} (hc : Cx p R s m args c D (tysWX g) A (WX a g) cX4_pointAt 5 RX4 0 0) (hr : Rti p l e R s m args below meth c Q D A (WX a g) cX4_pointAt z) : ∀ (fu : Nat) (S : St) (v1 : Int32) (v2 : Int32) (v3 : Int32) (v4 : Int32), f_X4_pointAt_p3 fu S v1 v2 v3 v4 = some z → Go p l e R s m args below meth c Q D A (WX a g) 5 S 3 [(0, .ref (a 1)), (1, .int v1), (2, .int v2), (3, .int v3), (4, .int v4)] [] := by
  obtain ⟨⟨hx, hb, hml, hown, hts⟩, -, -, -, hnf, hno⟩ := id hc
  intro fu
  induction fu with
  | zero =>
    intro S v1 v2 v3 v4 h
    rw [f_X4_pointAt_p3] at h
    cases h
  | succ fu ih =>
    intro S v1 v2 v3 v4 h H locs ls hP hS hl
    rw [f_X4_pointAt_p3] at h
    refine lv_iload hx hb dX4_pointAt_3 (lv_at hl 4 rfl) ?_
    refine lv_aload_n hx hb dX4_pointAt_5 rfl (lv_at hl 0 rfl) ?_
    refine gfWX_Mesh_points hc hP q_137 dX4_pointAt_6 ?_
    refine lv_icmp_ge (tgt := 54) hx hb dX4_pointAt_9 (by decide) (fun hq => ?_) (fun hq => ?_)
    · replace h := if_yes hq h
      refine lv_bipush (v := -9) hx hb dX4_pointAt_54 (by decide) ?_
      obtain rfl := Option.some.inj h
      exact hr _ _ _ _ dX4_pointAt_56 hP hS
    · replace h := if_no hq h
      refine lv_aload_n hx hb dX4_pointAt_12 rfl (lv_at hl 0 rfl) ?_
      refine gfWX_Mesh_x hc hP q_47 dX4_pointAt_13 ?_
      refine lv_iload hx hb dX4_pointAt_16 (lv_at hl 4 rfl) ?_
      obtain ⟨h1, h⟩ := chk_at h
      refine alWX_Mesh_x hc hP h1 dX4_pointAt_18 ?_
      refine lv_iload_n hx hb dX4_pointAt_19 rfl (lv_at hl 1 rfl) ?_
      refine lv_icmp_ne (tgt := 48) hx hb dX4_pointAt_20 (by decide) (fun hq => ?_) (fun hq => ?_)
      · replace h := if_no hq h
        obtain ⟨x2, ex2⟩ : ∃ y : Int32, y = v4 + (1 : Int32) := ⟨_, rfl⟩
        replace h := olet_at ex2 h
        refine lv_iinc (v := x2) (lv' := [(4, .int x2), (0, .ref (a 1)), (1, .int v1), (2, .int v2), (3, .int v3)]) hx hb dX4_pointAt_48 hl (k := 4) rfl (by rw [ex2]; rfl) (by decide) rfl (fun ls hl => ?_)
        refine lv_goto (tgt := 3) hx hb dX4_pointAt_51 (by decide) ?_
        exact ih S v1 v2 v3 x2 h H locs ls hP hS (lv_sub hl [1, 2, 3, 4, 0] rfl)
      · replace h := if_yes hq h
        refine lv_aload_n hx hb dX4_pointAt_23 rfl (lv_at hl 0 rfl) ?_
        refine gfWX_Mesh_y hc hP q_48 dX4_pointAt_24 ?_
        refine lv_iload hx hb dX4_pointAt_27 (lv_at hl 4 rfl) ?_
        obtain ⟨h3, h⟩ := chk_at h
        refine alWX_Mesh_y hc hP h3 dX4_pointAt_29 ?_
        refine lv_iload_n hx hb dX4_pointAt_30 rfl (lv_at hl 2 rfl) ?_
        refine lv_icmp_ne (tgt := 48) hx hb dX4_pointAt_31 (by decide) (fun hq => ?_) (fun hq => ?_)
        · replace h := if_no hq h
          obtain ⟨x4, ex4⟩ : ∃ y : Int32, y = v4 + (1 : Int32) := ⟨_, rfl⟩
          replace h := olet_at ex4 h
          refine lv_iinc (v := x4) (lv' := [(4, .int x4), (0, .ref (a 1)), (1, .int v1), (2, .int v2), (3, .int v3)]) hx hb dX4_pointAt_48 hl (k := 4) rfl (by rw [ex4]; rfl) (by decide) rfl (fun ls hl => ?_)
          refine lv_goto (tgt := 3) hx hb dX4_pointAt_51 (by decide) ?_
          exact ih S v1 v2 v3 x4 h H locs ls hP hS (lv_sub hl [1, 2, 3, 4, 0] rfl)
        · replace h := if_yes hq h
          refine lv_aload_n hx hb dX4_pointAt_34 rfl (lv_at hl 0 rfl) ?_
          refine gfWX_Mesh_z hc hP q_49 dX4_pointAt_35 ?_
          refine lv_iload hx hb dX4_pointAt_38 (lv_at hl 4 rfl) ?_
          obtain ⟨h5, h⟩ := chk_at h
          refine alWX_Mesh_z hc hP h5 dX4_pointAt_40 ?_
          refine lv_iload_n hx hb dX4_pointAt_41 rfl (lv_at hl 3 rfl) ?_
          refine lv_icmp_ne (tgt := 48) hx hb dX4_pointAt_42 (by decide) (fun hq => ?_) (fun hq => ?_)
          · replace h := if_no hq h
            obtain ⟨x6, ex6⟩ : ∃ y : Int32, y = v4 + (1 : Int32) := ⟨_, rfl⟩
            replace h := olet_at ex6 h
            refine lv_iinc (v := x6) (lv' := [(4, .int x6), (0, .ref (a 1)), (1, .int v1), (2, .int v2), (3, .int v3)]) hx hb dX4_pointAt_48 hl (k := 4) rfl (by rw [ex6]; rfl) (by decide) rfl (fun ls hl => ?_)
            refine lv_goto (tgt := 3) hx hb dX4_pointAt_51 (by decide) ?_
            exact ih S v1 v2 v3 x6 h H locs ls hP hS (lv_sub hl [1, 2, 3, 4, 0] rfl)
          · replace h := if_yes hq h
            refine lv_iload hx hb dX4_pointAt_45 (lv_at hl 4 rfl) ?_
            obtain rfl := Option.some.inj h
            exact hr _ _ _ _ dX4_pointAt_47 hP hS
set_option maxHeartbeats 4000000 in
set_option maxRecDepth 100000 in
theorem t_X4_pointAt {z : St × Int32} (hc : Cx p R s m args c D (tysWX g) A (WX a g) cX4_pointAt 5 RX4 0 0) (hr : Rti p l e R s m args below meth c Q D A (WX a g) cX4_pointAt z) : ∀ (S : St) (v1 : Int32) (v2 : Int32) (v3 : Int32), f_X4_pointAt S v1 v2 v3 = some z → Go p l e R s m args below meth c Q D A (WX a g) 5 S 0 [(0, .ref (a 1)), (1, .int v1), (2, .int v2), (3, .int v3)] [] := by
  obtain ⟨⟨hx, hb, hml, hown, hts⟩, -, -, -, hnf, hno⟩ := id hc
  intro S v1 v2 v3 h H locs ls hP hS hl
  rw [f_X4_pointAt] at h
  replace hl : lv_has ls 5 [(0, .ref (a 1)), (1, .int v1), (2, .int v2), (3, .int v3)] := hl
  refine lv_iconst (v := 0) hx hb dX4_pointAt_0 (by decide) ?_
  refine lv_istore (lv' := [(4, .int (0 : Int32)), (0, .ref (a 1)), (1, .int v1), (2, .int v2), (3, .int v3)]) hx hb dX4_pointAt_1 hl (by decide) rfl (fun ls hl => ?_)
  exact t_X4_pointAt_p3 hc hr FU S v1 v2 v3 (0 : Int32) h H locs ls hP hS (lv_sub hl [1, 2, 3, 4, 0] rfl)
abbrev rm_X4_pointAt : Room := { frames := 0, cells := 0, slots := 0, locals := 0 }
theorem c_X4_pointAt {l : Launch} {D : va_G} {a : Nat → Nat} {g : Nat → ClassId} {S : St} {v1 : Int32} {v2 : Int32} {v3 : Int32} {z : St × Int32} (h : f_X4_pointAt S v1 v2 v3 = some z) : MetI l D (tysWX g) (WX a g) E0 yX4_pointAt cX4_pointAt 5 (some .int) rm_X4_pointAt [.ref (a 1), .int v1, .int v2, .int v3] S z := mk_i (WX_same a g) (by decide) z (Nat.le_of_ble_eq_true rfl) (fun p e s m args below meth c A Q hc hE hr => t_X4_pointAt hc hr S v1 v2 v3 h)
theorem k_X4_pointAt : CalV RX4 yX4_pointAt cX4_pointAt 5 (some .int) rm_X4_pointAt 3 := ⟨q_134, q_135, q_14, q_136, by decide +kernel, rfl, rfl⟩
set_option maxHeartbeats 4000000 in
set_option maxRecDepth 100000 in
theorem t_X4_put {z : St} (hc : Cx p R s m args c D (tysWX g) A (WX a g) cX4_put 5 RX4 0 0) (hr : Rtv p l e R s m args below meth c Q D A (WX a g) cX4_put z) : ∀ (S : St) (v1 : Int32) (v2 : Int32) (v3 : Int32) (v4 : Int32), f_X4_put S v1 v2 v3 v4 = some z → Go p l e R s m args below meth c Q D A (WX a g) 5 S 0 [(0, .ref (a 1)), (1, .int v1), (2, .int v2), (3, .int v3), (4, .int v4)] [] := by
  obtain ⟨⟨hx, hb, hml, hown, hts⟩, -, -, -, hnf, hno⟩ := id hc
  intro S v1 v2 v3 v4 h H locs ls hP hS hl
  rw [f_X4_put] at h
  replace hl : lv_has ls 5 [(0, .ref (a 1)), (1, .int v1), (2, .int v2), (3, .int v3), (4, .int v4)] := hl
  refine lv_aload_n hx hb dX4_put_0 rfl (lv_at hl 0 rfl) ?_
  refine gfWX_Mesh_x hc hP q_47 dX4_put_1 ?_
  refine lv_iload_n hx hb dX4_put_4 rfl (lv_at hl 1 rfl) ?_
  refine lv_iload_n hx hb dX4_put_5 rfl (lv_at hl 2 rfl) ?_
  obtain ⟨h1, h⟩ := chk_at h
  refine asWX_Mesh_x hc hP hS h1 dX4_put_6 (fun H locs hP hS => ?_)
  obtain ⟨S2, eS2⟩ : ∃ z, z = sa S 1 (v1).toNatClampNeg v2 := ⟨_, rfl⟩
  replace h := olet_at eS2 h
  rw [← eS2] at hP
  refine lv_aload_n hx hb dX4_put_7 rfl (lv_at hl 0 rfl) ?_
  refine gfWX_Mesh_y hc hP q_48 dX4_put_8 ?_
  refine lv_iload_n hx hb dX4_put_11 rfl (lv_at hl 1 rfl) ?_
  refine lv_iload_n hx hb dX4_put_12 rfl (lv_at hl 3 rfl) ?_
  obtain ⟨h3, h⟩ := chk_at h
  refine asWX_Mesh_y hc hP hS h3 dX4_put_13 (fun H locs hP hS => ?_)
  obtain ⟨S4, eS4⟩ : ∃ z, z = sa S2 2 (v1).toNatClampNeg v3 := ⟨_, rfl⟩
  replace h := olet_at eS4 h
  rw [← eS4] at hP
  refine lv_aload_n hx hb dX4_put_14 rfl (lv_at hl 0 rfl) ?_
  refine gfWX_Mesh_z hc hP q_49 dX4_put_15 ?_
  refine lv_iload_n hx hb dX4_put_18 rfl (lv_at hl 1 rfl) ?_
  refine lv_iload hx hb dX4_put_19 (lv_at hl 4 rfl) ?_
  obtain ⟨h5, h⟩ := chk_at h
  refine asWX_Mesh_z hc hP hS h5 dX4_put_21 (fun H locs hP hS => ?_)
  obtain ⟨S6, eS6⟩ : ∃ z, z = sa S4 3 (v1).toNatClampNeg v4 := ⟨_, rfl⟩
  replace h := olet_at eS6 h
  rw [← eS6] at hP
  obtain rfl := Option.some.inj h
  exact hr _ _ _ _ dX4_put_22 hP hS
abbrev rm_X4_put : Room := { frames := 0, cells := 0, slots := 0, locals := 0 }
theorem c_X4_put {l : Launch} {D : va_G} {a : Nat → Nat} {g : Nat → ClassId} {S : St} {v1 : Int32} {v2 : Int32} {v3 : Int32} {v4 : Int32} {z : St} (h : f_X4_put S v1 v2 v3 v4 = some z) : MetV l D (tysWX g) (WX a g) E0 yX4_put cX4_put 5 none rm_X4_put [.ref (a 1), .int v1, .int v2, .int v3, .int v4] S z := mk_v (WX_same a g) (by decide) z (Nat.le_of_ble_eq_true rfl) (fun p e s m args below meth c A Q hc hE hr => t_X4_put hc hr S v1 v2 v3 v4 h)
theorem k_X4_put : CalV RX4 yX4_put cX4_put 5 none rm_X4_put 4 := ⟨q_147, q_148, q_14, q_149, by decide +kernel, rfl, rfl⟩
set_option maxHeartbeats 4000000 in
set_option maxRecDepth 100000 in
theorem t_X4_addPoint {z : St × Int32} (hc : Cx p R s m args c D (tysWX g) A (WX a g) cX4_addPoint 4 RX4 1 24) (hr : Rti p l e R s m args below meth c Q D A (WX a g) cX4_addPoint z) : ∀ (S : St) (v1 : Int32) (v2 : Int32) (v3 : Int32), f_X4_addPoint S v1 v2 v3 = some z → Go p l e R s m args below meth c Q D A (WX a g) 4 S 0 [(0, .ref (a 1)), (1, .int v1), (2, .int v2), (3, .int v3)] [] := by
  obtain ⟨⟨hx, hb, hml, hown, hts⟩, -, -, -, hnf, hno⟩ := id hc
  intro S v1 v2 v3 h H locs ls hP hS hl
  rw [f_X4_addPoint] at h
  replace hl : lv_has ls 4 [(0, .ref (a 1)), (1, .int v1), (2, .int v2), (3, .int v3)] := hl
  refine lv_aload_n hx hb dX4_addPoint_0 rfl (lv_at hl 0 rfl) ?_
  refine lv_aload_n hx hb dX4_addPoint_1 rfl (lv_at hl 0 rfl) ?_
  refine gfWX_Mesh_points hc hP q_137 dX4_addPoint_2 ?_
  refine lv_iload_n hx hb dX4_addPoint_5 rfl (lv_at hl 1 rfl) ?_
  refine lv_iload_n hx hb dX4_addPoint_6 rfl (lv_at hl 2 rfl) ?_
  refine lv_iload_n hx hb dX4_addPoint_7 rfl (lv_at hl 3 rfl) ?_
  obtain ⟨S1, hk2, h⟩ := ob1_at h
  refine cl_Vv (As := [.int (gi S 2), .int v1, .int v2, .int v3]) (rest := []) hc k_X4_put q_146 (c_X4_put hk2) hP hS (WX_1 a g S) rfl rfl rfl hl (Nat.le_of_ble_eq_true rfl) dX4_addPoint_8 (Nat.le_of_ble_eq_true rfl) (Nat.le_of_ble_eq_true rfl) rfl (fun H locs hP hS => ?_)
  refine lv_aload_n hx hb dX4_addPoint_11 rfl (lv_at hl 0 rfl) ?_
  refine lv_dup hx hb dX4_addPoint_12 rfl ?_
  refine gfWX_Mesh_points hc hP q_137 dX4_addPoint_13 ?_
  refine lv_iconst (v := 1) hx hb dX4_addPoint_16 (by decide) ?_
  refine lv_iadd hx hb dX4_addPoint_17 ?_
  refine pfWX_Mesh_points hc hP hS q_137 dX4_addPoint_18 (fun H locs hP hS => ?_)
  obtain ⟨S3, eS3⟩ : ∃ z, z = si S1 2 ((gi S1 2) + (1 : Int32)) := ⟨_, rfl⟩
  replace h := olet_at eS3 h
  rw [← eS3] at hP
  refine lv_aload_n hx hb dX4_addPoint_21 rfl (lv_at hl 0 rfl) ?_
  refine gfWX_Mesh_points hc hP q_137 dX4_addPoint_22 ?_
  refine lv_iconst (v := 1) hx hb dX4_addPoint_25 (by decide) ?_
  refine lv_isub hx hb dX4_addPoint_26 ?_
  obtain rfl := Option.some.inj h
  exact hr _ _ _ _ dX4_addPoint_27 hP hS
abbrev rm_X4_addPoint : Room := { frames := 1, cells := 0, slots := 0, locals := 24 }
theorem c_X4_addPoint {l : Launch} {D : va_G} {a : Nat → Nat} {g : Nat → ClassId} {S : St} {v1 : Int32} {v2 : Int32} {v3 : Int32} {z : St × Int32} (h : f_X4_addPoint S v1 v2 v3 = some z) : MetI l D (tysWX g) (WX a g) E0 yX4_addPoint cX4_addPoint 4 (some .int) rm_X4_addPoint [.ref (a 1), .int v1, .int v2, .int v3] S z := mk_i (WX_same a g) (by decide) z (Nat.le_of_ble_eq_true rfl) (fun p e s m args below meth c A Q hc hE hr => t_X4_addPoint hc hr S v1 v2 v3 h)
theorem k_X4_addPoint : CalV RX4 yX4_addPoint cX4_addPoint 4 (some .int) rm_X4_addPoint 3 := ⟨q_143, q_144, q_14, q_145, by decide +kernel, rfl, rfl⟩
set_option maxHeartbeats 4000000 in
set_option maxRecDepth 100000 in
theorem t_X4_hasPoint {z : St × Int32} (hc : Cx p R s m args c D (tysWX g) A (WX a g) cX4_hasPoint 2 RX4 0 0) (hr : Rtz p l e R s m args below meth c Q D A (WX a g) cX4_hasPoint z) : ∀ (S : St) (v1 : Int32), f_X4_hasPoint S v1 = some z → Go p l e R s m args below meth c Q D A (WX a g) 2 S 0 [(0, .ref (a 1)), (1, .int v1)] [] := by
  obtain ⟨⟨hx, hb, hml, hown, hts⟩, -, -, -, hnf, hno⟩ := id hc
  intro S v1 h H locs ls hP hS hl
  rw [f_X4_hasPoint] at h
  replace hl : lv_has ls 2 [(0, .ref (a 1)), (1, .int v1)] := hl
  refine lv_iload_n hx hb dX4_hasPoint_0 rfl (lv_at hl 1 rfl) ?_
  refine lv_if_lt (tgt := 16) hx hb dX4_hasPoint_1 (by decide) (fun hq => ?_) (fun hq => ?_)
  · replace h := if_yes hq h
    refine lv_iconst (v := 0) hx hb dX4_hasPoint_16 (by decide) ?_
    obtain rfl := Option.some.inj h
    exact hr (Or.inl rfl) _ _ _ _ dX4_hasPoint_17 hP hS
  · replace h := if_no hq h
    refine lv_iload_n hx hb dX4_hasPoint_4 rfl (lv_at hl 1 rfl) ?_
    refine lv_aload_n hx hb dX4_hasPoint_5 rfl (lv_at hl 0 rfl) ?_
    refine gfWX_Mesh_points hc hP q_137 dX4_hasPoint_6 ?_
    refine lv_icmp_ge (tgt := 16) hx hb dX4_hasPoint_9 (by decide) (fun hq => ?_) (fun hq => ?_)
    · replace h := if_yes hq h
      refine lv_iconst (v := 0) hx hb dX4_hasPoint_16 (by decide) ?_
      obtain rfl := Option.some.inj h
      exact hr (Or.inl rfl) _ _ _ _ dX4_hasPoint_17 hP hS
    · replace h := if_no hq h
      refine lv_iconst (v := 1) hx hb dX4_hasPoint_12 (by decide) ?_
      refine lv_goto (tgt := 17) hx hb dX4_hasPoint_13 (by decide) ?_
      obtain rfl := Option.some.inj h
      exact hr (Or.inr rfl) _ _ _ _ dX4_hasPoint_17 hP hS
abbrev rm_X4_hasPoint : Room := { frames := 0, cells := 0, slots := 0, locals := 0 }
theorem c_X4_hasPoint {l : Launch} {D : va_G} {a : Nat → Nat} {g : Nat → ClassId} {S : St} {v1 : Int32} {z : St × Int32} (h : f_X4_hasPoint S v1 = some z) : MetI l D (tysWX g) (WX a g) E0 yX4_hasPoint cX4_hasPoint 2 (some .boolean) rm_X4_hasPoint [.ref (a 1), .int v1] S z := mk_z (WX_same a g) (by decide) z (Nat.le_of_ble_eq_true rfl) (fun p e s m args below meth c A Q hc hE hr => t_X4_hasPoint hc hr S v1 h)
theorem k_X4_hasPoint : CalV RX4 yX4_hasPoint cX4_hasPoint 2 (some .boolean) rm_X4_hasPoint 1 := ⟨q_176, q_177, q_14, q_178, by decide +kernel, rfl, rfl⟩
set_option maxHeartbeats 4000000 in
set_option maxRecDepth 100000 in
theorem t_X4_area_y_z {z : St × Int32} (hc : Cx p R s m args c D (tysWX g) A (WX a g) cX4_area 5 RX4 0 0) (hr : Rti p l e R s m args below meth c Q D A (WX a g) cX4_area z) : ∀ (S : St) (v2 : Int32) (v3 : Int32) (v4 : Int32), f_X4_area_y_z S v2 v3 v4 = some z → Go p l e R s m args below meth c Q D A (WX a g) 5 S 0 [(0, .ref (a 10)), (1, .ref (a 11)), (2, .int v2), (3, .int v3), (4, .int v4)] [] := by
  obtain ⟨⟨hx, hb, hml, hown, hts⟩, -, -, -, hnf, hno⟩ := id hc
  intro S v2 v3 v4 h H locs ls hP hS hl
  rw [f_X4_area_y_z] at h
  replace hl : lv_has ls 5 [(0, .ref (a 10)), (1, .ref (a 11)), (2, .int v2), (3, .int v3), (4, .int v4)] := hl
  refine lv_aload_n hx hb dX4_area_0 rfl (lv_at hl 0 rfl) ?_
  refine lv_iload_n hx hb dX4_area_1 rfl (lv_at hl 3 rfl) ?_
  obtain ⟨h1, h⟩ := chk_at h
  refine alWX_Mesh_y hc hP h1 dX4_area_2 ?_
  refine lv_aload_n hx hb dX4_area_3 rfl (lv_at hl 0 rfl) ?_
  refine lv_iload_n hx hb dX4_area_4 rfl (lv_at hl 2 rfl) ?_
  obtain ⟨h2, h⟩ := chk_at h
  refine alWX_Mesh_y hc hP h2 dX4_area_5 ?_
  refine lv_isub hx hb dX4_area_6 ?_
  refine lv_aload_n hx hb dX4_area_7 rfl (lv_at hl 1 rfl) ?_
  refine lv_iload hx hb dX4_area_8 (lv_at hl 4 rfl) ?_
  obtain ⟨h3, h⟩ := chk_at h
  refine alWX_Mesh_z hc hP h3 dX4_area_10 ?_
  refine lv_aload_n hx hb dX4_area_11 rfl (lv_at hl 1 rfl) ?_
  refine lv_iload_n hx hb dX4_area_12 rfl (lv_at hl 2 rfl) ?_
  obtain ⟨h4, h⟩ := chk_at h
  refine alWX_Mesh_z hc hP h4 dX4_area_13 ?_
  refine lv_isub hx hb dX4_area_14 ?_
  refine lv_imul hx hb dX4_area_15 ?_
  refine lv_aload_n hx hb dX4_area_16 rfl (lv_at hl 1 rfl) ?_
  refine lv_iload_n hx hb dX4_area_17 rfl (lv_at hl 3 rfl) ?_
  obtain ⟨h5, h⟩ := chk_at h
  refine alWX_Mesh_z hc hP h5 dX4_area_18 ?_
  refine lv_aload_n hx hb dX4_area_19 rfl (lv_at hl 1 rfl) ?_
  refine lv_iload_n hx hb dX4_area_20 rfl (lv_at hl 2 rfl) ?_
  obtain ⟨h6, h⟩ := chk_at h
  refine alWX_Mesh_z hc hP h6 dX4_area_21 ?_
  refine lv_isub hx hb dX4_area_22 ?_
  refine lv_aload_n hx hb dX4_area_23 rfl (lv_at hl 0 rfl) ?_
  refine lv_iload hx hb dX4_area_24 (lv_at hl 4 rfl) ?_
  obtain ⟨h7, h⟩ := chk_at h
  refine alWX_Mesh_y hc hP h7 dX4_area_26 ?_
  refine lv_aload_n hx hb dX4_area_27 rfl (lv_at hl 0 rfl) ?_
  refine lv_iload_n hx hb dX4_area_28 rfl (lv_at hl 2 rfl) ?_
  obtain ⟨h8, h⟩ := chk_at h
  refine alWX_Mesh_y hc hP h8 dX4_area_29 ?_
  refine lv_isub hx hb dX4_area_30 ?_
  refine lv_imul hx hb dX4_area_31 ?_
  refine lv_isub hx hb dX4_area_32 ?_
  obtain rfl := Option.some.inj h
  exact hr _ _ _ _ dX4_area_33 hP hS
abbrev rm_X4_area_y_z : Room := { frames := 0, cells := 0, slots := 0, locals := 0 }
theorem c_X4_area_y_z {l : Launch} {D : va_G} {a : Nat → Nat} {g : Nat → ClassId} {S : St} {v2 : Int32} {v3 : Int32} {v4 : Int32} {z : St × Int32} (h : f_X4_area_y_z S v2 v3 v4 = some z) : MetI l D (tysWX g) (WX a g) E0 yX4_area cX4_area 5 (some .int) rm_X4_area_y_z [.ref (a 10), .ref (a 11), .int v2, .int v3, .int v4] S z := mk_i (WX_same a g) (by decide) z (Nat.le_of_ble_eq_true rfl) (fun p e s m args below meth c A Q hc hE hr => t_X4_area_y_z hc hr S v2 v3 v4 h)
theorem k_X4_area_y_z : CalS yX4_area cX4_area 5 (some .int) rm_X4_area_y_z 5 := ⟨q_184, q_14, q_185, by decide +kernel, rfl, rfl⟩
set_option maxHeartbeats 4000000 in
set_option maxRecDepth 100000 in
theorem t_X4_area_z_x {z : St × Int32} (hc : Cx p R s m args c D (tysWX g) A (WX a g) cX4_area 5 RX4 0 0) (hr : Rti p l e R s m args below meth c Q D A (WX a g) cX4_area z) : ∀ (S : St) (v2 : Int32) (v3 : Int32) (v4 : Int32), f_X4_area_z_x S v2 v3 v4 = some z → Go p l e R s m args below meth c Q D A (WX a g) 5 S 0 [(0, .ref (a 11)), (1, .ref (a 9)), (2, .int v2), (3, .int v3), (4, .int v4)] [] := by
  obtain ⟨⟨hx, hb, hml, hown, hts⟩, -, -, -, hnf, hno⟩ := id hc
  intro S v2 v3 v4 h H locs ls hP hS hl
  rw [f_X4_area_z_x] at h
  replace hl : lv_has ls 5 [(0, .ref (a 11)), (1, .ref (a 9)), (2, .int v2), (3, .int v3), (4, .int v4)] := hl
  refine lv_aload_n hx hb dX4_area_0 rfl (lv_at hl 0 rfl) ?_
  refine lv_iload_n hx hb dX4_area_1 rfl (lv_at hl 3 rfl) ?_
  obtain ⟨h1, h⟩ := chk_at h
  refine alWX_Mesh_z hc hP h1 dX4_area_2 ?_
  refine lv_aload_n hx hb dX4_area_3 rfl (lv_at hl 0 rfl) ?_
  refine lv_iload_n hx hb dX4_area_4 rfl (lv_at hl 2 rfl) ?_
  obtain ⟨h2, h⟩ := chk_at h
  refine alWX_Mesh_z hc hP h2 dX4_area_5 ?_
  refine lv_isub hx hb dX4_area_6 ?_
  refine lv_aload_n hx hb dX4_area_7 rfl (lv_at hl 1 rfl) ?_
  refine lv_iload hx hb dX4_area_8 (lv_at hl 4 rfl) ?_
  obtain ⟨h3, h⟩ := chk_at h
  refine alWX_Mesh_x hc hP h3 dX4_area_10 ?_
  refine lv_aload_n hx hb dX4_area_11 rfl (lv_at hl 1 rfl) ?_
  refine lv_iload_n hx hb dX4_area_12 rfl (lv_at hl 2 rfl) ?_
  obtain ⟨h4, h⟩ := chk_at h
  refine alWX_Mesh_x hc hP h4 dX4_area_13 ?_
  refine lv_isub hx hb dX4_area_14 ?_
  refine lv_imul hx hb dX4_area_15 ?_
  refine lv_aload_n hx hb dX4_area_16 rfl (lv_at hl 1 rfl) ?_
  refine lv_iload_n hx hb dX4_area_17 rfl (lv_at hl 3 rfl) ?_
  obtain ⟨h5, h⟩ := chk_at h
  refine alWX_Mesh_x hc hP h5 dX4_area_18 ?_
  refine lv_aload_n hx hb dX4_area_19 rfl (lv_at hl 1 rfl) ?_
  refine lv_iload_n hx hb dX4_area_20 rfl (lv_at hl 2 rfl) ?_
  obtain ⟨h6, h⟩ := chk_at h
  refine alWX_Mesh_x hc hP h6 dX4_area_21 ?_
  refine lv_isub hx hb dX4_area_22 ?_
  refine lv_aload_n hx hb dX4_area_23 rfl (lv_at hl 0 rfl) ?_
  refine lv_iload hx hb dX4_area_24 (lv_at hl 4 rfl) ?_
  obtain ⟨h7, h⟩ := chk_at h
  refine alWX_Mesh_z hc hP h7 dX4_area_26 ?_
  refine lv_aload_n hx hb dX4_area_27 rfl (lv_at hl 0 rfl) ?_
  refine lv_iload_n hx hb dX4_area_28 rfl (lv_at hl 2 rfl) ?_
  obtain ⟨h8, h⟩ := chk_at h
  refine alWX_Mesh_z hc hP h8 dX4_area_29 ?_
  refine lv_isub hx hb dX4_area_30 ?_
  refine lv_imul hx hb dX4_area_31 ?_
  refine lv_isub hx hb dX4_area_32 ?_
  obtain rfl := Option.some.inj h
  exact hr _ _ _ _ dX4_area_33 hP hS
abbrev rm_X4_area_z_x : Room := { frames := 0, cells := 0, slots := 0, locals := 0 }
theorem c_X4_area_z_x {l : Launch} {D : va_G} {a : Nat → Nat} {g : Nat → ClassId} {S : St} {v2 : Int32} {v3 : Int32} {v4 : Int32} {z : St × Int32} (h : f_X4_area_z_x S v2 v3 v4 = some z) : MetI l D (tysWX g) (WX a g) E0 yX4_area cX4_area 5 (some .int) rm_X4_area_z_x [.ref (a 11), .ref (a 9), .int v2, .int v3, .int v4] S z := mk_i (WX_same a g) (by decide) z (Nat.le_of_ble_eq_true rfl) (fun p e s m args below meth c A Q hc hE hr => t_X4_area_z_x hc hr S v2 v3 v4 h)
theorem k_X4_area_z_x : CalS yX4_area cX4_area 5 (some .int) rm_X4_area_z_x 5 := ⟨q_184, q_14, q_185, by decide +kernel, rfl, rfl⟩
set_option maxHeartbeats 4000000 in
set_option maxRecDepth 100000 in
theorem t_X4_area_x_y {z : St × Int32} (hc : Cx p R s m args c D (tysWX g) A (WX a g) cX4_area 5 RX4 0 0) (hr : Rti p l e R s m args below meth c Q D A (WX a g) cX4_area z) : ∀ (S : St) (v2 : Int32) (v3 : Int32) (v4 : Int32), f_X4_area_x_y S v2 v3 v4 = some z → Go p l e R s m args below meth c Q D A (WX a g) 5 S 0 [(0, .ref (a 9)), (1, .ref (a 10)), (2, .int v2), (3, .int v3), (4, .int v4)] [] := by
  obtain ⟨⟨hx, hb, hml, hown, hts⟩, -, -, -, hnf, hno⟩ := id hc
  intro S v2 v3 v4 h H locs ls hP hS hl
  rw [f_X4_area_x_y] at h
  replace hl : lv_has ls 5 [(0, .ref (a 9)), (1, .ref (a 10)), (2, .int v2), (3, .int v3), (4, .int v4)] := hl
  refine lv_aload_n hx hb dX4_area_0 rfl (lv_at hl 0 rfl) ?_
  refine lv_iload_n hx hb dX4_area_1 rfl (lv_at hl 3 rfl) ?_
  obtain ⟨h1, h⟩ := chk_at h
  refine alWX_Mesh_x hc hP h1 dX4_area_2 ?_
  refine lv_aload_n hx hb dX4_area_3 rfl (lv_at hl 0 rfl) ?_
  refine lv_iload_n hx hb dX4_area_4 rfl (lv_at hl 2 rfl) ?_
  obtain ⟨h2, h⟩ := chk_at h
  refine alWX_Mesh_x hc hP h2 dX4_area_5 ?_
  refine lv_isub hx hb dX4_area_6 ?_
  refine lv_aload_n hx hb dX4_area_7 rfl (lv_at hl 1 rfl) ?_
  refine lv_iload hx hb dX4_area_8 (lv_at hl 4 rfl) ?_
  obtain ⟨h3, h⟩ := chk_at h
  refine alWX_Mesh_y hc hP h3 dX4_area_10 ?_
  refine lv_aload_n hx hb dX4_area_11 rfl (lv_at hl 1 rfl) ?_
  refine lv_iload_n hx hb dX4_area_12 rfl (lv_at hl 2 rfl) ?_
  obtain ⟨h4, h⟩ := chk_at h
  refine alWX_Mesh_y hc hP h4 dX4_area_13 ?_
  refine lv_isub hx hb dX4_area_14 ?_
  refine lv_imul hx hb dX4_area_15 ?_
  refine lv_aload_n hx hb dX4_area_16 rfl (lv_at hl 1 rfl) ?_
  refine lv_iload_n hx hb dX4_area_17 rfl (lv_at hl 3 rfl) ?_
  obtain ⟨h5, h⟩ := chk_at h
  refine alWX_Mesh_y hc hP h5 dX4_area_18 ?_
  refine lv_aload_n hx hb dX4_area_19 rfl (lv_at hl 1 rfl) ?_
  refine lv_iload_n hx hb dX4_area_20 rfl (lv_at hl 2 rfl) ?_
  obtain ⟨h6, h⟩ := chk_at h
  refine alWX_Mesh_y hc hP h6 dX4_area_21 ?_
  refine lv_isub hx hb dX4_area_22 ?_
  refine lv_aload_n hx hb dX4_area_23 rfl (lv_at hl 0 rfl) ?_
  refine lv_iload hx hb dX4_area_24 (lv_at hl 4 rfl) ?_
  obtain ⟨h7, h⟩ := chk_at h
  refine alWX_Mesh_x hc hP h7 dX4_area_26 ?_
  refine lv_aload_n hx hb dX4_area_27 rfl (lv_at hl 0 rfl) ?_
  refine lv_iload_n hx hb dX4_area_28 rfl (lv_at hl 2 rfl) ?_
  obtain ⟨h8, h⟩ := chk_at h
  refine alWX_Mesh_x hc hP h8 dX4_area_29 ?_
  refine lv_isub hx hb dX4_area_30 ?_
  refine lv_imul hx hb dX4_area_31 ?_
  refine lv_isub hx hb dX4_area_32 ?_
  obtain rfl := Option.some.inj h
  exact hr _ _ _ _ dX4_area_33 hP hS
abbrev rm_X4_area_x_y : Room := { frames := 0, cells := 0, slots := 0, locals := 0 }
theorem c_X4_area_x_y {l : Launch} {D : va_G} {a : Nat → Nat} {g : Nat → ClassId} {S : St} {v2 : Int32} {v3 : Int32} {v4 : Int32} {z : St × Int32} (h : f_X4_area_x_y S v2 v3 v4 = some z) : MetI l D (tysWX g) (WX a g) E0 yX4_area cX4_area 5 (some .int) rm_X4_area_x_y [.ref (a 9), .ref (a 10), .int v2, .int v3, .int v4] S z := mk_i (WX_same a g) (by decide) z (Nat.le_of_ble_eq_true rfl) (fun p e s m args below meth c A Q hc hE hr => t_X4_area_x_y hc hr S v2 v3 v4 h)
theorem k_X4_area_x_y : CalS yX4_area cX4_area 5 (some .int) rm_X4_area_x_y 5 := ⟨q_184, q_14, q_185, by decide +kernel, rfl, rfl⟩
set_option maxHeartbeats 4000000 in
set_option maxRecDepth 100000 in
theorem t_X4_onLine {z : St × Int32} (hc : Cx p R s m args c D (tysWX g) A (WX a g) cX4_onLine 4 RX4 1 24) (hr : Rtz p l e R s m args below meth c Q D A (WX a g) cX4_onLine z) : ∀ (S : St) (v1 : Int32) (v2 : Int32) (v3 : Int32), f_X4_onLine S v1 v2 v3 = some z → Go p l e R s m args below meth c Q D A (WX a g) 4 S 0 [(0, .ref (a 1)), (1, .int v1), (2, .int v2), (3, .int v3)] [] := by
  obtain ⟨⟨hx, hb, hml, hown, hts⟩, -, -, -, hnf, hno⟩ := id hc
  intro S v1 v2 v3 h H locs ls hP hS hl
  rw [f_X4_onLine] at h
  replace hl : lv_has ls 4 [(0, .ref (a 1)), (1, .int v1), (2, .int v2), (3, .int v3)] := hl
  refine lv_aload_n hx hb dX4_onLine_0 rfl (lv_at hl 0 rfl) ?_
  refine gfWX_Mesh_y hc hP q_48 dX4_onLine_1 ?_
  refine lv_aload_n hx hb dX4_onLine_4 rfl (lv_at hl 0 rfl) ?_
  refine gfWX_Mesh_z hc hP q_49 dX4_onLine_5 ?_
  refine lv_iload_n hx hb dX4_onLine_8 rfl (lv_at hl 1 rfl) ?_
  refine lv_iload_n hx hb dX4_onLine_9 rfl (lv_at hl 2 rfl) ?_
  refine lv_iload_n hx hb dX4_onLine_10 rfl (lv_at hl 3 rfl) ?_
  obtain ⟨S1, x3, hk2, h⟩ := ob2_at h
  refine cl_Si (As := [.ref (a 10), .ref (a 11), .int v1, .int v2, .int v3]) (rest := []) hc k_X4_area_y_z q_183 (c_X4_area_y_z hk2) hP hS rfl hl (Nat.le_of_ble_eq_true rfl) dX4_onLine_11 (Nat.le_of_ble_eq_true rfl) (Nat.le_of_ble_eq_true rfl) rfl (fun H locs hP hS => ?_)
  refine lv_if_ne (tgt := 55) hx hb dX4_onLine_14 (by decide) (fun hq => ?_) (fun hq => ?_)
  · replace h := if_no hq h
    refine lv_iconst (v := 0) hx hb dX4_onLine_55 (by decide) ?_
    obtain rfl := Option.some.inj h
    exact hr (Or.inl rfl) _ _ _ _ dX4_onLine_56 hP hS
  · replace h := if_yes hq h
    refine lv_aload_n hx hb dX4_onLine_17 rfl (lv_at hl 0 rfl) ?_
    refine gfWX_Mesh_z hc hP q_49 dX4_onLine_18 ?_
    refine lv_aload_n hx hb dX4_onLine_21 rfl (lv_at hl 0 rfl) ?_
    refine gfWX_Mesh_x hc hP q_47 dX4_onLine_22 ?_
    refine lv_iload_n hx hb dX4_onLine_25 rfl (lv_at hl 1 rfl) ?_
    refine lv_iload_n hx hb dX4_onLine_26 rfl (lv_at hl 2 rfl) ?_
    refine lv_iload_n hx hb dX4_onLine_27 rfl (lv_at hl 3 rfl) ?_
    obtain ⟨S4, x6, hk5, h⟩ := ob2_at h
    refine cl_Si (As := [.ref (a 11), .ref (a 9), .int v1, .int v2, .int v3]) (rest := []) hc k_X4_area_z_x q_183 (c_X4_area_z_x hk5) hP hS rfl hl (Nat.le_of_ble_eq_true rfl) dX4_onLine_28 (Nat.le_of_ble_eq_true rfl) (Nat.le_of_ble_eq_true rfl) rfl (fun H locs hP hS => ?_)
    refine lv_if_ne (tgt := 55) hx hb dX4_onLine_31 (by decide) (fun hq => ?_) (fun hq => ?_)
    · replace h := if_no hq h
      refine lv_iconst (v := 0) hx hb dX4_onLine_55 (by decide) ?_
      obtain rfl := Option.some.inj h
      exact hr (Or.inl rfl) _ _ _ _ dX4_onLine_56 hP hS
    · replace h := if_yes hq h
      refine lv_aload_n hx hb dX4_onLine_34 rfl (lv_at hl 0 rfl) ?_
      refine gfWX_Mesh_x hc hP q_47 dX4_onLine_35 ?_
      refine lv_aload_n hx hb dX4_onLine_38 rfl (lv_at hl 0 rfl) ?_
      refine gfWX_Mesh_y hc hP q_48 dX4_onLine_39 ?_
      refine lv_iload_n hx hb dX4_onLine_42 rfl (lv_at hl 1 rfl) ?_
      refine lv_iload_n hx hb dX4_onLine_43 rfl (lv_at hl 2 rfl) ?_
      refine lv_iload_n hx hb dX4_onLine_44 rfl (lv_at hl 3 rfl) ?_
      obtain ⟨S7, x9, hk8, h⟩ := ob2_at h
      refine cl_Si (As := [.ref (a 9), .ref (a 10), .int v1, .int v2, .int v3]) (rest := []) hc k_X4_area_x_y q_183 (c_X4_area_x_y hk8) hP hS rfl hl (Nat.le_of_ble_eq_true rfl) dX4_onLine_45 (Nat.le_of_ble_eq_true rfl) (Nat.le_of_ble_eq_true rfl) rfl (fun H locs hP hS => ?_)
      refine lv_if_ne (tgt := 55) hx hb dX4_onLine_48 (by decide) (fun hq => ?_) (fun hq => ?_)
      · replace h := if_no hq h
        refine lv_iconst (v := 0) hx hb dX4_onLine_55 (by decide) ?_
        obtain rfl := Option.some.inj h
        exact hr (Or.inl rfl) _ _ _ _ dX4_onLine_56 hP hS
      · replace h := if_yes hq h
        refine lv_iconst (v := 1) hx hb dX4_onLine_51 (by decide) ?_
        refine lv_goto (tgt := 56) hx hb dX4_onLine_52 (by decide) ?_
        obtain rfl := Option.some.inj h
        exact hr (Or.inr rfl) _ _ _ _ dX4_onLine_56 hP hS
abbrev rm_X4_onLine : Room := { frames := 1, cells := 0, slots := 0, locals := 24 }
theorem c_X4_onLine {l : Launch} {D : va_G} {a : Nat → Nat} {g : Nat → ClassId} {S : St} {v1 : Int32} {v2 : Int32} {v3 : Int32} {z : St × Int32} (h : f_X4_onLine S v1 v2 v3 = some z) : MetI l D (tysWX g) (WX a g) E0 yX4_onLine cX4_onLine 4 (some .boolean) rm_X4_onLine [.ref (a 1), .int v1, .int v2, .int v3] S z := mk_z (WX_same a g) (by decide) z (Nat.le_of_ble_eq_true rfl) (fun p e s m args below meth c A Q hc hE hr => t_X4_onLine hc hr S v1 v2 v3 h)
theorem k_X4_onLine : CalV RX4 yX4_onLine cX4_onLine 4 (some .boolean) rm_X4_onLine 3 := ⟨q_180, q_181, q_14, q_182, by decide +kernel, rfl, rfl⟩
set_option maxHeartbeats 4000000 in
set_option maxRecDepth 100000 in
theorem t_X4_cornerOf {z : St × Int32} (hc : Cx p R s m args c D (tysWX g) A (WX a g) cX4_cornerOf 3 RX4 0 0) (hr : Rti p l e R s m args below meth c Q D A (WX a g) cX4_cornerOf z) : ∀ (S : St) (v1 : Int32) (v2 : Int32), f_X4_cornerOf S v1 v2 = some z → Go p l e R s m args below meth c Q D A (WX a g) 3 S 0 [(0, .ref (a 1)), (1, .int v1), (2, .int v2)] [] := by
  obtain ⟨⟨hx, hb, hml, hown, hts⟩, -, -, -, hnf, hno⟩ := id hc
  intro S v1 v2 h H locs ls hP hS hl
  rw [f_X4_cornerOf] at h
  replace hl : lv_has ls 3 [(0, .ref (a 1)), (1, .int v1), (2, .int v2)] := hl
  refine lv_aload_n hx hb dX4_cornerOf_0 rfl (lv_at hl 0 rfl) ?_
  refine gfWX_Mesh_corners hc hP q_50 dX4_cornerOf_1 ?_
  refine lv_iconst (v := 3) hx hb dX4_cornerOf_4 (by decide) ?_
  refine lv_iload_n hx hb dX4_cornerOf_5 rfl (lv_at hl 1 rfl) ?_
  refine lv_imul hx hb dX4_cornerOf_6 ?_
  refine lv_iload_n hx hb dX4_cornerOf_7 rfl (lv_at hl 2 rfl) ?_
  refine lv_iadd hx hb dX4_cornerOf_8 ?_
  obtain ⟨h1, h⟩ := chk_at h
  refine alWX_Mesh_corners hc hP h1 dX4_cornerOf_9 ?_
  obtain rfl := Option.some.inj h
  exact hr _ _ _ _ dX4_cornerOf_10 hP hS
abbrev rm_X4_cornerOf : Room := { frames := 0, cells := 0, slots := 0, locals := 0 }
theorem c_X4_cornerOf {l : Launch} {D : va_G} {a : Nat → Nat} {g : Nat → ClassId} {S : St} {v1 : Int32} {v2 : Int32} {z : St × Int32} (h : f_X4_cornerOf S v1 v2 = some z) : MetI l D (tysWX g) (WX a g) E0 yX4_cornerOf cX4_cornerOf 3 (some .int) rm_X4_cornerOf [.ref (a 1), .int v1, .int v2] S z := mk_i (WX_same a g) (by decide) z (Nat.le_of_ble_eq_true rfl) (fun p e s m args below meth c A Q hc hE hr => t_X4_cornerOf hc hr S v1 v2 h)
theorem k_X4_cornerOf : CalV RX4 yX4_cornerOf cX4_cornerOf 3 (some .int) rm_X4_cornerOf 2 := ⟨q_196, q_197, q_14, q_198, by decide +kernel, rfl, rfl⟩
set_option maxHeartbeats 4000000 in
set_option maxRecDepth 100000 in
theorem t_X4_hasCorner {z : St × Int32} (hc : Cx p R s m args c D (tysWX g) A (WX a g) cX4_hasCorner 3 RX4 1 22) (hr : Rtz p l e R s m args below meth c Q D A (WX a g) cX4_hasCorner z) : ∀ (S : St) (v1 : Int32) (v2 : Int32), f_X4_hasCorner S v1 v2 = some z → Go p l e R s m args below meth c Q D A (WX a g) 3 S 0 [(0, .ref (a 1)), (1, .int v1), (2, .int v2)] [] := by
  obtain ⟨⟨hx, hb, hml, hown, hts⟩, -, -, -, hnf, hno⟩ := id hc
  intro S v1 v2 h H locs ls hP hS hl
  rw [f_X4_hasCorner] at h
  replace hl : lv_has ls 3 [(0, .ref (a 1)), (1, .int v1), (2, .int v2)] := hl
  refine lv_aload_n hx hb dX4_hasCorner_0 rfl (lv_at hl 0 rfl) ?_
  refine lv_iload_n hx hb dX4_hasCorner_1 rfl (lv_at hl 1 rfl) ?_
  refine lv_iconst (v := 0) hx hb dX4_hasCorner_2 (by decide) ?_
  obtain ⟨S1, x3, hk2, h⟩ := ob2_at h
  refine cl_Vi (As := [.int v1, .int (0 : Int32)]) (rest := []) hc k_X4_cornerOf q_195 (c_X4_cornerOf hk2) hP hS (WX_1 a g S) rfl rfl rfl hl (Nat.le_of_ble_eq_true rfl) dX4_hasCorner_3 (Nat.le_of_ble_eq_true rfl) (Nat.le_of_ble_eq_true rfl) rfl (fun H locs hP hS => ?_)
  refine lv_iload_n hx hb dX4_hasCorner_6 rfl (lv_at hl 2 rfl) ?_
  refine lv_icmp_eq (tgt := 30) hx hb dX4_hasCorner_7 (by decide) (fun hq => ?_) (fun hq => ?_)
  · replace h := if_yes hq h
    refine lv_iconst (v := 1) hx hb dX4_hasCorner_30 (by decide) ?_
    refine lv_goto (tgt := 35) hx hb dX4_hasCorner_31 (by decide) ?_
    obtain rfl := Option.some.inj h
    exact hr (Or.inr rfl) _ _ _ _ dX4_hasCorner_35 hP hS
  · replace h := if_no hq h
    refine lv_aload_n hx hb dX4_hasCorner_10 rfl (lv_at hl 0 rfl) ?_
    refine lv_iload_n hx hb dX4_hasCorner_11 rfl (lv_at hl 1 rfl) ?_
    refine lv_iconst (v := 1) hx hb dX4_hasCorner_12 (by decide) ?_
    obtain ⟨S4, x6, hk5, h⟩ := ob2_at h
    refine cl_Vi (As := [.int v1, .int (1 : Int32)]) (rest := []) hc k_X4_cornerOf q_195 (c_X4_cornerOf hk5) hP hS (WX_1 a g S1) rfl rfl rfl hl (Nat.le_of_ble_eq_true rfl) dX4_hasCorner_13 (Nat.le_of_ble_eq_true rfl) (Nat.le_of_ble_eq_true rfl) rfl (fun H locs hP hS => ?_)
    refine lv_iload_n hx hb dX4_hasCorner_16 rfl (lv_at hl 2 rfl) ?_
    refine lv_icmp_eq (tgt := 30) hx hb dX4_hasCorner_17 (by decide) (fun hq => ?_) (fun hq => ?_)
    · replace h := if_yes hq h
      refine lv_iconst (v := 1) hx hb dX4_hasCorner_30 (by decide) ?_
      refine lv_goto (tgt := 35) hx hb dX4_hasCorner_31 (by decide) ?_
      obtain rfl := Option.some.inj h
      exact hr (Or.inr rfl) _ _ _ _ dX4_hasCorner_35 hP hS
    · replace h := if_no hq h
      refine lv_aload_n hx hb dX4_hasCorner_20 rfl (lv_at hl 0 rfl) ?_
      refine lv_iload_n hx hb dX4_hasCorner_21 rfl (lv_at hl 1 rfl) ?_
      refine lv_iconst (v := 2) hx hb dX4_hasCorner_22 (by decide) ?_
      obtain ⟨S7, x9, hk8, h⟩ := ob2_at h
      refine cl_Vi (As := [.int v1, .int (2 : Int32)]) (rest := []) hc k_X4_cornerOf q_195 (c_X4_cornerOf hk8) hP hS (WX_1 a g S4) rfl rfl rfl hl (Nat.le_of_ble_eq_true rfl) dX4_hasCorner_23 (Nat.le_of_ble_eq_true rfl) (Nat.le_of_ble_eq_true rfl) rfl (fun H locs hP hS => ?_)
      refine lv_iload_n hx hb dX4_hasCorner_26 rfl (lv_at hl 2 rfl) ?_
      refine lv_icmp_ne (tgt := 34) hx hb dX4_hasCorner_27 (by decide) (fun hq => ?_) (fun hq => ?_)
      · replace h := if_no hq h
        refine lv_iconst (v := 0) hx hb dX4_hasCorner_34 (by decide) ?_
        obtain rfl := Option.some.inj h
        exact hr (Or.inl rfl) _ _ _ _ dX4_hasCorner_35 hP hS
      · replace h := if_yes hq h
        refine lv_iconst (v := 1) hx hb dX4_hasCorner_30 (by decide) ?_
        refine lv_goto (tgt := 35) hx hb dX4_hasCorner_31 (by decide) ?_
        obtain rfl := Option.some.inj h
        exact hr (Or.inr rfl) _ _ _ _ dX4_hasCorner_35 hP hS
abbrev rm_X4_hasCorner : Room := { frames := 1, cells := 0, slots := 0, locals := 22 }
theorem c_X4_hasCorner {l : Launch} {D : va_G} {a : Nat → Nat} {g : Nat → ClassId} {S : St} {v1 : Int32} {v2 : Int32} {z : St × Int32} (h : f_X4_hasCorner S v1 v2 = some z) : MetI l D (tysWX g) (WX a g) E0 yX4_hasCorner cX4_hasCorner 3 (some .boolean) rm_X4_hasCorner [.ref (a 1), .int v1, .int v2] S z := mk_z (WX_same a g) (by decide) z (Nat.le_of_ble_eq_true rfl) (fun p e s m args below meth c A Q hc hE hr => t_X4_hasCorner hc hr S v1 v2 h)
theorem k_X4_hasCorner : CalV RX4 yX4_hasCorner cX4_hasCorner 3 (some .boolean) rm_X4_hasCorner 2 := ⟨q_192, q_193, q_14, q_194, by decide +kernel, rfl, rfl⟩
set_option maxHeartbeats 4000000 in
set_option maxRecDepth 100000 in
theorem t_X4_hasFaceOn_p3 {z : St × Int32} (hc : Cx p R s m args c D (tysWX g) A (WX a g) cX4_hasFaceOn 5 RX4 2 44) (hr : Rtz p l e R s m args below meth c Q D A (WX a g) cX4_hasFaceOn z) : ∀ (fu : Nat) (S : St) (v1 : Int32) (v2 : Int32) (v3 : Int32) (v4 : Int32), f_X4_hasFaceOn_p3 fu S v1 v2 v3 v4 = some z → Go p l e R s m args below meth c Q D A (WX a g) 5 S 3 [(0, .ref (a 1)), (1, .int v1), (2, .int v2), (3, .int v3), (4, .int v4)] [] := by
  obtain ⟨⟨hx, hb, hml, hown, hts⟩, -, -, -, hnf, hno⟩ := id hc
  intro fu
  induction fu with
  | zero =>
    intro S v1 v2 v3 v4 h
    rw [f_X4_hasFaceOn_p3] at h
    cases h
  | succ fu ih =>
    intro S v1 v2 v3 v4 h H locs ls hP hS hl
    rw [f_X4_hasFaceOn_p3] at h
    refine lv_iload hx hb dX4_hasFaceOn_3 (lv_at hl 4 rfl) ?_
    refine lv_aload_n hx hb dX4_hasFaceOn_5 rfl (lv_at hl 0 rfl) ?_
    refine gfWX_Mesh_faces hc hP q_190 dX4_hasFaceOn_6 ?_
    refine lv_icmp_ge (tgt := 50) hx hb dX4_hasFaceOn_9 (by decide) (fun hq => ?_) (fun hq => ?_)
    · replace h := if_yes hq h
      refine lv_iconst (v := 0) hx hb dX4_hasFaceOn_50 (by decide) ?_
      obtain rfl := Option.some.inj h
      exact hr (Or.inl rfl) _ _ _ _ dX4_hasFaceOn_51 hP hS
    · replace h := if_no hq h
      refine lv_aload_n hx hb dX4_hasFaceOn_12 rfl (lv_at hl 0 rfl) ?_
      refine lv_iload hx hb dX4_hasFaceOn_13 (lv_at hl 4 rfl) ?_
      refine lv_iload_n hx hb dX4_hasFaceOn_15 rfl (lv_at hl 1 rfl) ?_
      obtain ⟨S1, x3, hk2, h⟩ := ob2_at h
      refine cl_Vi (As := [.int v4, .int v1]) (rest := []) hc k_X4_hasCorner q_191 (c_X4_hasCorner hk2) hP hS (WX_1 a g S) rfl rfl rfl hl (Nat.le_of_ble_eq_true rfl) dX4_hasFaceOn_16 (Nat.le_of_ble_eq_true rfl) (Nat.le_of_ble_eq_true rfl) rfl (fun H locs hP hS => ?_)
      refine lv_if_eq (tgt := 44) hx hb dX4_hasFaceOn_19 (by decide) (fun hq => ?_) (fun hq => ?_)
      · replace h := if_yes hq h
        obtain ⟨x4, ex4⟩ : ∃ y : Int32, y = v4 + (1 : Int32) := ⟨_, rfl⟩
        replace h := olet_at ex4 h
        refine lv_iinc (v := x4) (lv' := [(4, .int x4), (0, .ref (a 1)), (1, .int v1), (2, .int v2), (3, .int v3)]) hx hb dX4_hasFaceOn_44 hl (k := 4) rfl (by rw [ex4]; rfl) (by decide) rfl (fun ls hl => ?_)
        refine lv_goto (tgt := 3) hx hb dX4_hasFaceOn_47 (by decide) ?_
        exact ih S1 v1 v2 v3 x4 h H locs ls hP hS (lv_sub hl [1, 2, 3, 4, 0] rfl)
      · replace h := if_no hq h
        refine lv_aload_n hx hb dX4_hasFaceOn_22 rfl (lv_at hl 0 rfl) ?_
        refine lv_iload hx hb dX4_hasFaceOn_23 (lv_at hl 4 rfl) ?_
        refine lv_iload_n hx hb dX4_hasFaceOn_25 rfl (lv_at hl 2 rfl) ?_
        obtain ⟨S5, x7, hk6, h⟩ := ob2_at h
        refine cl_Vi (As := [.int v4, .int v2]) (rest := []) hc k_X4_hasCorner q_191 (c_X4_hasCorner hk6) hP hS (WX_1 a g S1) rfl rfl rfl hl (Nat.le_of_ble_eq_true rfl) dX4_hasFaceOn_26 (Nat.le_of_ble_eq_true rfl) (Nat.le_of_ble_eq_true rfl) rfl (fun H locs hP hS => ?_)
        refine lv_if_eq (tgt := 44) hx hb dX4_hasFaceOn_29 (by decide) (fun hq => ?_) (fun hq => ?_)
        · replace h := if_yes hq h
          obtain ⟨x8, ex8⟩ : ∃ y : Int32, y = v4 + (1 : Int32) := ⟨_, rfl⟩
          replace h := olet_at ex8 h
          refine lv_iinc (v := x8) (lv' := [(4, .int x8), (0, .ref (a 1)), (1, .int v1), (2, .int v2), (3, .int v3)]) hx hb dX4_hasFaceOn_44 hl (k := 4) rfl (by rw [ex8]; rfl) (by decide) rfl (fun ls hl => ?_)
          refine lv_goto (tgt := 3) hx hb dX4_hasFaceOn_47 (by decide) ?_
          exact ih S5 v1 v2 v3 x8 h H locs ls hP hS (lv_sub hl [1, 2, 3, 4, 0] rfl)
        · replace h := if_no hq h
          refine lv_aload_n hx hb dX4_hasFaceOn_32 rfl (lv_at hl 0 rfl) ?_
          refine lv_iload hx hb dX4_hasFaceOn_33 (lv_at hl 4 rfl) ?_
          refine lv_iload_n hx hb dX4_hasFaceOn_35 rfl (lv_at hl 3 rfl) ?_
          obtain ⟨S9, x11, hk10, h⟩ := ob2_at h
          refine cl_Vi (As := [.int v4, .int v3]) (rest := []) hc k_X4_hasCorner q_191 (c_X4_hasCorner hk10) hP hS (WX_1 a g S5) rfl rfl rfl hl (Nat.le_of_ble_eq_true rfl) dX4_hasFaceOn_36 (Nat.le_of_ble_eq_true rfl) (Nat.le_of_ble_eq_true rfl) rfl (fun H locs hP hS => ?_)
          refine lv_if_eq (tgt := 44) hx hb dX4_hasFaceOn_39 (by decide) (fun hq => ?_) (fun hq => ?_)
          · replace h := if_yes hq h
            obtain ⟨x12, ex12⟩ : ∃ y : Int32, y = v4 + (1 : Int32) := ⟨_, rfl⟩
            replace h := olet_at ex12 h
            refine lv_iinc (v := x12) (lv' := [(4, .int x12), (0, .ref (a 1)), (1, .int v1), (2, .int v2), (3, .int v3)]) hx hb dX4_hasFaceOn_44 hl (k := 4) rfl (by rw [ex12]; rfl) (by decide) rfl (fun ls hl => ?_)
            refine lv_goto (tgt := 3) hx hb dX4_hasFaceOn_47 (by decide) ?_
            exact ih S9 v1 v2 v3 x12 h H locs ls hP hS (lv_sub hl [1, 2, 3, 4, 0] rfl)
          · replace h := if_no hq h
            refine lv_iconst (v := 1) hx hb dX4_hasFaceOn_42 (by decide) ?_
            obtain rfl := Option.some.inj h
            exact hr (Or.inr rfl) _ _ _ _ dX4_hasFaceOn_43 hP hS
set_option maxHeartbeats 4000000 in
set_option maxRecDepth 100000 in
theorem t_X4_hasFaceOn {z : St × Int32} (hc : Cx p R s m args c D (tysWX g) A (WX a g) cX4_hasFaceOn 5 RX4 2 44) (hr : Rtz p l e R s m args below meth c Q D A (WX a g) cX4_hasFaceOn z) : ∀ (S : St) (v1 : Int32) (v2 : Int32) (v3 : Int32), f_X4_hasFaceOn S v1 v2 v3 = some z → Go p l e R s m args below meth c Q D A (WX a g) 5 S 0 [(0, .ref (a 1)), (1, .int v1), (2, .int v2), (3, .int v3)] [] := by
  obtain ⟨⟨hx, hb, hml, hown, hts⟩, -, -, -, hnf, hno⟩ := id hc
  intro S v1 v2 v3 h H locs ls hP hS hl
  rw [f_X4_hasFaceOn] at h
  replace hl : lv_has ls 5 [(0, .ref (a 1)), (1, .int v1), (2, .int v2), (3, .int v3)] := hl
  refine lv_iconst (v := 0) hx hb dX4_hasFaceOn_0 (by decide) ?_
  refine lv_istore (lv' := [(4, .int (0 : Int32)), (0, .ref (a 1)), (1, .int v1), (2, .int v2), (3, .int v3)]) hx hb dX4_hasFaceOn_1 hl (by decide) rfl (fun ls hl => ?_)
  exact t_X4_hasFaceOn_p3 hc hr FU S v1 v2 v3 (0 : Int32) h H locs ls hP hS (lv_sub hl [1, 2, 3, 4, 0] rfl)
abbrev rm_X4_hasFaceOn : Room := { frames := 2, cells := 0, slots := 0, locals := 44 }
theorem c_X4_hasFaceOn {l : Launch} {D : va_G} {a : Nat → Nat} {g : Nat → ClassId} {S : St} {v1 : Int32} {v2 : Int32} {v3 : Int32} {z : St × Int32} (h : f_X4_hasFaceOn S v1 v2 v3 = some z) : MetI l D (tysWX g) (WX a g) E0 yX4_hasFaceOn cX4_hasFaceOn 5 (some .boolean) rm_X4_hasFaceOn [.ref (a 1), .int v1, .int v2, .int v3] S z := mk_z (WX_same a g) (by decide) z (Nat.le_of_ble_eq_true rfl) (fun p e s m args below meth c A Q hc hE hr => t_X4_hasFaceOn hc hr S v1 v2 v3 h)
theorem k_X4_hasFaceOn : CalV RX4 yX4_hasFaceOn cX4_hasFaceOn 5 (some .boolean) rm_X4_hasFaceOn 3 := ⟨q_187, q_188, q_14, q_189, by decide +kernel, rfl, rfl⟩
set_option maxHeartbeats 4000000 in
set_option maxRecDepth 100000 in
theorem t_X4_addFace {z : St × Int32} (hc : Cx p R s m args c D (tysWX g) A (WX a g) cX4_addFace 4 RX4 0 0) (hr : Rti p l e R s m args below meth c Q D A (WX a g) cX4_addFace z) : ∀ (S : St) (v1 : Int32) (v2 : Int32) (v3 : Int32), f_X4_addFace S v1 v2 v3 = some z → Go p l e R s m args below meth c Q D A (WX a g) 4 S 0 [(0, .ref (a 1)), (1, .int v1), (2, .int v2), (3, .int v3)] [] := by
  obtain ⟨⟨hx, hb, hml, hown, hts⟩, -, -, -, hnf, hno⟩ := id hc
  intro S v1 v2 v3 h H locs ls hP hS hl
  rw [f_X4_addFace] at h
  replace hl : lv_has ls 4 [(0, .ref (a 1)), (1, .int v1), (2, .int v2), (3, .int v3)] := hl
  refine lv_aload_n hx hb dX4_addFace_0 rfl (lv_at hl 0 rfl) ?_
  refine gfWX_Mesh_corners hc hP q_50 dX4_addFace_1 ?_
  refine lv_iconst (v := 3) hx hb dX4_addFace_4 (by decide) ?_
  refine lv_aload_n hx hb dX4_addFace_5 rfl (lv_at hl 0 rfl) ?_
  refine gfWX_Mesh_faces hc hP q_190 dX4_addFace_6 ?_
  refine lv_imul hx hb dX4_addFace_9 ?_
  refine lv_iload_n hx hb dX4_addFace_10 rfl (lv_at hl 1 rfl) ?_
  obtain ⟨h1, h⟩ := chk_at h
  refine asWX_Mesh_corners hc hP hS h1 dX4_addFace_11 (fun H locs hP hS => ?_)
  obtain ⟨S2, eS2⟩ : ∃ z, z = sa S 4 (((3 : Int32) * (gi S 3))).toNatClampNeg v1 := ⟨_, rfl⟩
  replace h := olet_at eS2 h
  rw [← eS2] at hP
  refine lv_aload_n hx hb dX4_addFace_12 rfl (lv_at hl 0 rfl) ?_
  refine gfWX_Mesh_corners hc hP q_50 dX4_addFace_13 ?_
  refine lv_iconst (v := 3) hx hb dX4_addFace_16 (by decide) ?_
  refine lv_aload_n hx hb dX4_addFace_17 rfl (lv_at hl 0 rfl) ?_
  refine gfWX_Mesh_faces hc hP q_190 dX4_addFace_18 ?_
  refine lv_imul hx hb dX4_addFace_21 ?_
  refine lv_iconst (v := 1) hx hb dX4_addFace_22 (by decide) ?_
  refine lv_iadd hx hb dX4_addFace_23 ?_
  refine lv_iload_n hx hb dX4_addFace_24 rfl (lv_at hl 2 rfl) ?_
  obtain ⟨h3, h⟩ := chk_at h
  refine asWX_Mesh_corners hc hP hS h3 dX4_addFace_25 (fun H locs hP hS => ?_)
  obtain ⟨S4, eS4⟩ : ∃ z, z = sa S2 4 ((((3 : Int32) * (gi S2 3)) + (1 : Int32))).toNatClampNeg v2 := ⟨_, rfl⟩
  replace h := olet_at eS4 h
  rw [← eS4] at hP
  refine lv_aload_n hx hb dX4_addFace_26 rfl (lv_at hl 0 rfl) ?_
  refine gfWX_Mesh_corners hc hP q_50 dX4_addFace_27 ?_
  refine lv_iconst (v := 3) hx hb dX4_addFace_30 (by decide) ?_
  refine lv_aload_n hx hb dX4_addFace_31 rfl (lv_at hl 0 rfl) ?_
  refine gfWX_Mesh_faces hc hP q_190 dX4_addFace_32 ?_
  refine lv_imul hx hb dX4_addFace_35 ?_
  refine lv_iconst (v := 2) hx hb dX4_addFace_36 (by decide) ?_
  refine lv_iadd hx hb dX4_addFace_37 ?_
  refine lv_iload_n hx hb dX4_addFace_38 rfl (lv_at hl 3 rfl) ?_
  obtain ⟨h5, h⟩ := chk_at h
  refine asWX_Mesh_corners hc hP hS h5 dX4_addFace_39 (fun H locs hP hS => ?_)
  obtain ⟨S6, eS6⟩ : ∃ z, z = sa S4 4 ((((3 : Int32) * (gi S4 3)) + (2 : Int32))).toNatClampNeg v3 := ⟨_, rfl⟩
  replace h := olet_at eS6 h
  rw [← eS6] at hP
  refine lv_aload_n hx hb dX4_addFace_40 rfl (lv_at hl 0 rfl) ?_
  refine lv_dup hx hb dX4_addFace_41 rfl ?_
  refine gfWX_Mesh_faces hc hP q_190 dX4_addFace_42 ?_
  refine lv_iconst (v := 1) hx hb dX4_addFace_45 (by decide) ?_
  refine lv_iadd hx hb dX4_addFace_46 ?_
  refine pfWX_Mesh_faces hc hP hS q_190 dX4_addFace_47 (fun H locs hP hS => ?_)
  obtain ⟨S7, eS7⟩ : ∃ z, z = si S6 3 ((gi S6 3) + (1 : Int32)) := ⟨_, rfl⟩
  replace h := olet_at eS7 h
  rw [← eS7] at hP
  refine lv_aload_n hx hb dX4_addFace_50 rfl (lv_at hl 0 rfl) ?_
  refine gfWX_Mesh_faces hc hP q_190 dX4_addFace_51 ?_
  refine lv_iconst (v := 1) hx hb dX4_addFace_54 (by decide) ?_
  refine lv_isub hx hb dX4_addFace_55 ?_
  obtain rfl := Option.some.inj h
  exact hr _ _ _ _ dX4_addFace_56 hP hS
abbrev rm_X4_addFace : Room := { frames := 0, cells := 0, slots := 0, locals := 0 }
theorem c_X4_addFace {l : Launch} {D : va_G} {a : Nat → Nat} {g : Nat → ClassId} {S : St} {v1 : Int32} {v2 : Int32} {v3 : Int32} {z : St × Int32} (h : f_X4_addFace S v1 v2 v3 = some z) : MetI l D (tysWX g) (WX a g) E0 yX4_addFace cX4_addFace 4 (some .int) rm_X4_addFace [.ref (a 1), .int v1, .int v2, .int v3] S z := mk_i (WX_same a g) (by decide) z (Nat.le_of_ble_eq_true rfl) (fun p e s m args below meth c A Q hc hE hr => t_X4_addFace hc hr S v1 v2 v3 h)
theorem k_X4_addFace : CalV RX4 yX4_addFace cX4_addFace 4 (some .int) rm_X4_addFace 3 := ⟨q_200, q_201, q_14, q_202, by decide +kernel, rfl, rfl⟩
set_option maxHeartbeats 4000000 in
set_option maxRecDepth 100000 in
theorem t_X4_hasWire_p44 {z : St × Int32} (hc : Cx p R s m args c D (tysWX g) A (WX a g) cX4_hasWire 6 RX4 0 0) (hr : Rtz p l e R s m args below meth c Q D A (WX a g) cX4_hasWire z) {k2 : St → Int32 → Int32 → Int32 → Option (St × Int32)} (K2 : ∀ (S : St) (v1 : Int32) (v2 : Int32) (v3 : Int32), k2 S v1 v2 v3 = some z → Go p l e R s m args below meth c Q D A (WX a g) 6 S 2 [(0, .ref (a 1)), (1, .int v1), (2, .int v2), (3, .int v3)] []) : ∀ (S : St) (v1 : Int32) (v2 : Int32) (v3 : Int32) (v4 : Int32) (v5 : Int32), f_X4_hasWire_p44 k2 S v1 v2 v3 v4 v5 = some z → Go p l e R s m args below meth c Q D A (WX a g) 6 S 44 [(0, .ref (a 1)), (1, .int v1), (2, .int v2), (3, .int v3), (4, .int v4), (5, .int v5)] [] := by
  obtain ⟨⟨hx, hb, hml, hown, hts⟩, -, -, -, hnf, hno⟩ := id hc
  intro S v1 v2 v3 v4 v5 h H locs ls hP hS hl
  rw [f_X4_hasWire_p44] at h
  refine lv_iload hx hb dX4_hasWire_44 (lv_at hl 4 rfl) ?_
  refine lv_iload_n hx hb dX4_hasWire_46 rfl (lv_at hl 2 rfl) ?_
  refine lv_icmp_ne (tgt := 58) hx hb dX4_hasWire_47 (by decide) (fun hq => ?_) (fun hq => ?_)
  · replace h := if_no hq h
    obtain ⟨x1, ex1⟩ : ∃ y : Int32, y = v3 + (1 : Int32) := ⟨_, rfl⟩
    replace h := olet_at ex1 h
    refine lv_iinc (v := x1) (lv' := [(3, .int x1), (0, .ref (a 1)), (1, .int v1), (2, .int v2), (4, .int v4), (5, .int v5)]) hx hb dX4_hasWire_58 hl (k := 3) rfl (by rw [ex1]; rfl) (by decide) rfl (fun ls hl => ?_)
    refine lv_goto (tgt := 2) hx hb dX4_hasWire_61 (by decide) ?_
    exact K2 S v1 v2 x1 h H locs ls hP hS (lv_sub hl [1, 2, 3, 0] rfl)
  · replace h := if_yes hq h
    refine lv_iload hx hb dX4_hasWire_50 (lv_at hl 5 rfl) ?_
    refine lv_iload_n hx hb dX4_hasWire_52 rfl (lv_at hl 1 rfl) ?_
    refine lv_icmp_ne (tgt := 58) hx hb dX4_hasWire_53 (by decide) (fun hq => ?_) (fun hq => ?_)
    · replace h := if_no hq h
      obtain ⟨x2, ex2⟩ : ∃ y : Int32, y = v3 + (1 : Int32) := ⟨_, rfl⟩
      replace h := olet_at ex2 h
      refine lv_iinc (v := x2) (lv' := [(3, .int x2), (0, .ref (a 1)), (1, .int v1), (2, .int v2), (4, .int v4), (5, .int v5)]) hx hb dX4_hasWire_58 hl (k := 3) rfl (by rw [ex2]; rfl) (by decide) rfl (fun ls hl => ?_)
      refine lv_goto (tgt := 2) hx hb dX4_hasWire_61 (by decide) ?_
      exact K2 S v1 v2 x2 h H locs ls hP hS (lv_sub hl [1, 2, 3, 0] rfl)
    · replace h := if_yes hq h
      refine lv_iconst (v := 1) hx hb dX4_hasWire_56 (by decide) ?_
      obtain rfl := Option.some.inj h
      exact hr (Or.inr rfl) _ _ _ _ dX4_hasWire_57 hP hS
set_option maxHeartbeats 4000000 in
set_option maxRecDepth 100000 in
theorem t_X4_hasWire_p2 {z : St × Int32} (hc : Cx p R s m args c D (tysWX g) A (WX a g) cX4_hasWire 6 RX4 0 0) (hr : Rtz p l e R s m args below meth c Q D A (WX a g) cX4_hasWire z) : ∀ (fu : Nat) (S : St) (v1 : Int32) (v2 : Int32) (v3 : Int32), f_X4_hasWire_p2 fu S v1 v2 v3 = some z → Go p l e R s m args below meth c Q D A (WX a g) 6 S 2 [(0, .ref (a 1)), (1, .int v1), (2, .int v2), (3, .int v3)] [] := by
  obtain ⟨⟨hx, hb, hml, hown, hts⟩, -, -, -, hnf, hno⟩ := id hc
  intro fu
  induction fu with
  | zero =>
    intro S v1 v2 v3 h
    rw [f_X4_hasWire_p2] at h
    cases h
  | succ fu ih =>
    intro S v1 v2 v3 h H locs ls hP hS hl
    rw [f_X4_hasWire_p2] at h
    refine lv_iload_n hx hb dX4_hasWire_2 rfl (lv_at hl 3 rfl) ?_
    refine lv_aload_n hx hb dX4_hasWire_3 rfl (lv_at hl 0 rfl) ?_
    refine gfWX_Mesh_wires hc hP q_237 dX4_hasWire_4 ?_
    refine lv_icmp_ge (tgt := 64) hx hb dX4_hasWire_7 (by decide) (fun hq => ?_) (fun hq => ?_)
    · replace h := if_yes hq h
      refine lv_iconst (v := 0) hx hb dX4_hasWire_64 (by decide) ?_
      obtain rfl := Option.some.inj h
      exact hr (Or.inl rfl) _ _ _ _ dX4_hasWire_65 hP hS
    · replace h := if_no hq h
      refine lv_aload_n hx hb dX4_hasWire_10 rfl (lv_at hl 0 rfl) ?_
      refine gfWX_Mesh_wireEnds hc hP q_51 dX4_hasWire_11 ?_
      refine lv_iconst (v := 2) hx hb dX4_hasWire_14 (by decide) ?_
      refine lv_iload_n hx hb dX4_hasWire_15 rfl (lv_at hl 3 rfl) ?_
      refine lv_imul hx hb dX4_hasWire_16 ?_
      obtain ⟨h1, h⟩ := chk_at h
      refine alWX_Mesh_wireEnds hc hP h1 dX4_hasWire_17 ?_
      refine lv_topi (fun x2 ex2 => ?_)
      replace h := olet_at ex2 h
      refine lv_istore (lv' := [(4, .int x2), (0, .ref (a 1)), (1, .int v1), (2, .int v2), (3, .int v3)]) hx hb dX4_hasWire_18 hl (by decide) rfl (fun ls hl => ?_)
      refine lv_aload_n hx hb dX4_hasWire_20 rfl (lv_at hl 1 rfl) ?_
      refine gfWX_Mesh_wireEnds hc hP q_51 dX4_hasWire_21 ?_
      refine lv_iconst (v := 2) hx hb dX4_hasWire_24 (by decide) ?_
      refine lv_iload_n hx hb dX4_hasWire_25 rfl (lv_at hl 4 rfl) ?_
      refine lv_imul hx hb dX4_hasWire_26 ?_
      refine lv_iconst (v := 1) hx hb dX4_hasWire_27 (by decide) ?_
      refine lv_iadd hx hb dX4_hasWire_28 ?_
      obtain ⟨h3, h⟩ := chk_at h
      refine alWX_Mesh_wireEnds hc hP h3 dX4_hasWire_29 ?_
      refine lv_topi (fun x4 ex4 => ?_)
      replace h := olet_at ex4 h
      refine lv_istore (lv' := [(5, .int x4), (4, .int x2), (0, .ref (a 1)), (1, .int v1), (2, .int v2), (3, .int v3)]) hx hb dX4_hasWire_30 hl (by decide) rfl (fun ls hl => ?_)
      refine lv_iload hx hb dX4_hasWire_32 (lv_at hl 1 rfl) ?_
      refine lv_iload_n hx hb dX4_hasWire_34 rfl (lv_at hl 3 rfl) ?_
      refine lv_icmp_ne (tgt := 44) hx hb dX4_hasWire_35 (by decide) (fun hq => ?_) (fun hq => ?_)
      · replace h := if_no hq h
        exact t_X4_hasWire_p44 hc hr ih S v1 v2 v3 x2 x4 h H locs ls hP hS (lv_sub hl [2, 3, 4, 5, 1, 0] rfl)
      · replace h := if_yes hq h
        refine lv_iload hx hb dX4_hasWire_38 (lv_at hl 0 rfl) ?_
        refine lv_iload_n hx hb dX4_hasWire_40 rfl (lv_at hl 4 rfl) ?_
        refine lv_icmp_eq (tgt := 56) hx hb dX4_hasWire_41 (by decide) (fun hq => ?_) (fun hq => ?_)
        · replace h := if_yes hq h
          refine lv_iconst (v := 1) hx hb dX4_hasWire_56 (by decide) ?_
          obtain rfl := Option.some.inj h
          exact hr (Or.inr rfl) _ _ _ _ dX4_hasWire_57 hP hS
        · replace h := if_no hq h
          exact t_X4_hasWire_p44 hc hr ih S v1 v2 v3 x2 x4 h H locs ls hP hS (lv_sub hl [2, 3, 4, 5, 1, 0] rfl)
set_option maxHeartbeats 4000000 in
set_option maxRecDepth 100000 in
theorem t_X4_hasWire {z : St × Int32} (hc : Cx p R s m args c D (tysWX g) A (WX a g) cX4_hasWire 6 RX4 0 0) (hr : Rtz p l e R s m args below meth c Q D A (WX a g) cX4_hasWire z) : ∀ (S : St) (v1 : Int32) (v2 : Int32), f_X4_hasWire S v1 v2 = some z → Go p l e R s m args below meth c Q D A (WX a g) 6 S 0 [(0, .ref (a 1)), (1, .int v1), (2, .int v2)] [] := by
  obtain ⟨⟨hx, hb, hml, hown, hts⟩, -, -, -, hnf, hno⟩ := id hc
  intro S v1 v2 h H locs ls hP hS hl
  rw [f_X4_hasWire] at h
  replace hl : lv_has ls 6 [(0, .ref (a 1)), (1, .int v1), (2, .int v2)] := hl
  refine lv_iconst (v := 0) hx hb dX4_hasWire_0 (by decide) ?_
  refine lv_istore_n (lv' := [(3, .int (0 : Int32)), (0, .ref (a 1)), (1, .int v1), (2, .int v2)]) hx hb dX4_hasWire_1 rfl hl (by decide) rfl (fun ls hl => ?_)
  exact t_X4_hasWire_p2 hc hr FU S v1 v2 (0 : Int32) h H locs ls hP hS (lv_sub hl [1, 2, 3, 0] rfl)
abbrev rm_X4_hasWire : Room := { frames := 0, cells := 0, slots := 0, locals := 0 }
theorem c_X4_hasWire {l : Launch} {D : va_G} {a : Nat → Nat} {g : Nat → ClassId} {S : St} {v1 : Int32} {v2 : Int32} {z : St × Int32} (h : f_X4_hasWire S v1 v2 = some z) : MetI l D (tysWX g) (WX a g) E0 yX4_hasWire cX4_hasWire 6 (some .boolean) rm_X4_hasWire [.ref (a 1), .int v1, .int v2] S z := mk_z (WX_same a g) (by decide) z (Nat.le_of_ble_eq_true rfl) (fun p e s m args below meth c A Q hc hE hr => t_X4_hasWire hc hr S v1 v2 h)
theorem k_X4_hasWire : CalV RX4 yX4_hasWire cX4_hasWire 6 (some .boolean) rm_X4_hasWire 2 := ⟨q_234, q_235, q_14, q_236, by decide +kernel, rfl, rfl⟩
set_option maxHeartbeats 4000000 in
set_option maxRecDepth 100000 in
theorem t_X4_addWire {z : St × Int32} (hc : Cx p R s m args c D (tysWX g) A (WX a g) cX4_addWire 3 RX4 0 0) (hr : Rti p l e R s m args below meth c Q D A (WX a g) cX4_addWire z) : ∀ (S : St) (v1 : Int32) (v2 : Int32), f_X4_addWire S v1 v2 = some z → Go p l e R s m args below meth c Q D A (WX a g) 3 S 0 [(0, .ref (a 1)), (1, .int v1), (2, .int v2)] [] := by
  obtain ⟨⟨hx, hb, hml, hown, hts⟩, -, -, -, hnf, hno⟩ := id hc
  intro S v1 v2 h H locs ls hP hS hl
  rw [f_X4_addWire] at h
  replace hl : lv_has ls 3 [(0, .ref (a 1)), (1, .int v1), (2, .int v2)] := hl
  refine lv_aload_n hx hb dX4_addWire_0 rfl (lv_at hl 0 rfl) ?_
  refine gfWX_Mesh_wireEnds hc hP q_51 dX4_addWire_1 ?_
  refine lv_iconst (v := 2) hx hb dX4_addWire_4 (by decide) ?_
  refine lv_aload_n hx hb dX4_addWire_5 rfl (lv_at hl 0 rfl) ?_
  refine gfWX_Mesh_wires hc hP q_237 dX4_addWire_6 ?_
  refine lv_imul hx hb dX4_addWire_9 ?_
  refine lv_iload_n hx hb dX4_addWire_10 rfl (lv_at hl 1 rfl) ?_
  obtain ⟨h1, h⟩ := chk_at h
  refine asWX_Mesh_wireEnds hc hP hS h1 dX4_addWire_11 (fun H locs hP hS => ?_)
  obtain ⟨S2, eS2⟩ : ∃ z, z = sa S 5 (((2 : Int32) * (gi S 4))).toNatClampNeg v1 := ⟨_, rfl⟩
  replace h := olet_at eS2 h
  rw [← eS2] at hP
  refine lv_aload_n hx hb dX4_addWire_12 rfl (lv_at hl 0 rfl) ?_
  refine gfWX_Mesh_wireEnds hc hP q_51 dX4_addWire_13 ?_
  refine lv_iconst (v := 2) hx hb dX4_addWire_16 (by decide) ?_
  refine lv_aload_n hx hb dX4_addWire_17 rfl (lv_at hl 0 rfl) ?_
  refine gfWX_Mesh_wires hc hP q_237 dX4_addWire_18 ?_
  refine lv_imul hx hb dX4_addWire_21 ?_
  refine lv_iconst (v := 1) hx hb dX4_addWire_22 (by decide) ?_
  refine lv_iadd hx hb dX4_addWire_23 ?_
  refine lv_iload_n hx hb dX4_addWire_24 rfl (lv_at hl 2 rfl) ?_
  obtain ⟨h3, h⟩ := chk_at h
  refine asWX_Mesh_wireEnds hc hP hS h3 dX4_addWire_25 (fun H locs hP hS => ?_)
  obtain ⟨S4, eS4⟩ : ∃ z, z = sa S2 5 ((((2 : Int32) * (gi S2 4)) + (1 : Int32))).toNatClampNeg v2 := ⟨_, rfl⟩
  replace h := olet_at eS4 h
  rw [← eS4] at hP
  refine lv_aload_n hx hb dX4_addWire_26 rfl (lv_at hl 0 rfl) ?_
  refine lv_dup hx hb dX4_addWire_27 rfl ?_
  refine gfWX_Mesh_wires hc hP q_237 dX4_addWire_28 ?_
  refine lv_iconst (v := 1) hx hb dX4_addWire_31 (by decide) ?_
  refine lv_iadd hx hb dX4_addWire_32 ?_
  refine pfWX_Mesh_wires hc hP hS q_237 dX4_addWire_33 (fun H locs hP hS => ?_)
  obtain ⟨S5, eS5⟩ : ∃ z, z = si S4 4 ((gi S4 4) + (1 : Int32)) := ⟨_, rfl⟩
  replace h := olet_at eS5 h
  rw [← eS5] at hP
  refine lv_aload_n hx hb dX4_addWire_36 rfl (lv_at hl 0 rfl) ?_
  refine gfWX_Mesh_wires hc hP q_237 dX4_addWire_37 ?_
  obtain rfl := Option.some.inj h
  exact hr _ _ _ _ dX4_addWire_40 hP hS
abbrev rm_X4_addWire : Room := { frames := 0, cells := 0, slots := 0, locals := 0 }
theorem c_X4_addWire {l : Launch} {D : va_G} {a : Nat → Nat} {g : Nat → ClassId} {S : St} {v1 : Int32} {v2 : Int32} {z : St × Int32} (h : f_X4_addWire S v1 v2 = some z) : MetI l D (tysWX g) (WX a g) E0 yX4_addWire cX4_addWire 3 (some .int) rm_X4_addWire [.ref (a 1), .int v1, .int v2] S z := mk_i (WX_same a g) (by decide) z (Nat.le_of_ble_eq_true rfl) (fun p e s m args below meth c A Q hc hE hr => t_X4_addWire hc hr S v1 v2 h)
theorem k_X4_addWire : CalV RX4 yX4_addWire cX4_addWire 3 (some .int) rm_X4_addWire 2 := ⟨q_239, q_240, q_14, q_241, by decide +kernel, rfl, rfl⟩
set_option maxHeartbeats 4000000 in
set_option maxRecDepth 100000 in
theorem t_X4_turnPoint_p105 {z : St × Int32} (hc : Cx p R s m args c D (tysWX g) A (WX a g) cX4_turnPoint 6 RX4 1 24) (hr : Rtz p l e R s m args below meth c Q D A (WX a g) cX4_turnPoint z) : ∀ (S : St) (v1 : Int32) (v3 : Int32) (v4 : Int32) (v5 : Int32), f_X4_turnPoint_p105 S v1 v3 v4 v5 = some z → Go p l e R s m args below meth c Q D A (WX a g) 6 S 105 [(0, .ref (a 1)), (1, .int v1), (3, .int v3), (4, .int v4), (5, .int v5)] [] := by
  obtain ⟨⟨hx, hb, hml, hown, hts⟩, -, -, -, hnf, hno⟩ := id hc
  intro S v1 v3 v4 v5 h H locs ls hP hS hl
  rw [f_X4_turnPoint_p105] at h
  refine lv_aload_n hx hb dX4_turnPoint_105 rfl (lv_at hl 0 rfl) ?_
  refine gfWX_Mesh_x hc hP q_47 dX4_turnPoint_106 ?_
  refine lv_iload_n hx hb dX4_turnPoint_109 rfl (lv_at hl 1 rfl) ?_
  obtain ⟨h1, h⟩ := chk_at h
  refine alWX_Mesh_x hc hP h1 dX4_turnPoint_110 ?_
  refine lv_iload_n hx hb dX4_turnPoint_111 rfl (lv_at hl 2 rfl) ?_
  refine lv_icmp_ne (tgt := 137) hx hb dX4_turnPoint_112 (by decide) (fun hq => ?_) (fun hq => ?_)
  · replace h := if_no hq h
    refine lv_iconst (v := 1) hx hb dX4_turnPoint_137 (by decide) ?_
    refine lv_goto (tgt := 142) hx hb dX4_turnPoint_138 (by decide) ?_
    obtain rfl := Option.some.inj h
    exact hr (Or.inr rfl) _ _ _ _ dX4_turnPoint_142 hP hS
  · replace h := if_yes hq h
    refine lv_aload_n hx hb dX4_turnPoint_115 rfl (lv_at hl 0 rfl) ?_
    refine gfWX_Mesh_y hc hP q_48 dX4_turnPoint_116 ?_
    refine lv_iload_n hx hb dX4_turnPoint_119 rfl (lv_at hl 1 rfl) ?_
    obtain ⟨h2, h⟩ := chk_at h
    refine alWX_Mesh_y hc hP h2 dX4_turnPoint_120 ?_
    refine lv_iload hx hb dX4_turnPoint_121 (lv_at hl 3 rfl) ?_
    refine lv_icmp_ne (tgt := 137) hx hb dX4_turnPoint_123 (by decide) (fun hq => ?_) (fun hq => ?_)
    · replace h := if_no hq h
      refine lv_iconst (v := 1) hx hb dX4_turnPoint_137 (by decide) ?_
      refine lv_goto (tgt := 142) hx hb dX4_turnPoint_138 (by decide) ?_
      obtain rfl := Option.some.inj h
      exact hr (Or.inr rfl) _ _ _ _ dX4_turnPoint_142 hP hS
    · replace h := if_yes hq h
      refine lv_aload_n hx hb dX4_turnPoint_126 rfl (lv_at hl 0 rfl) ?_
      refine gfWX_Mesh_z hc hP q_49 dX4_turnPoint_127 ?_
      refine lv_iload_n hx hb dX4_turnPoint_130 rfl (lv_at hl 1 rfl) ?_
      obtain ⟨h3, h⟩ := chk_at h
      refine alWX_Mesh_z hc hP h3 dX4_turnPoint_131 ?_
      refine lv_iload hx hb dX4_turnPoint_132 (lv_at hl 4 rfl) ?_
      refine lv_icmp_eq (tgt := 141) hx hb dX4_turnPoint_134 (by decide) (fun hq => ?_) (fun hq => ?_)
      · replace h := if_yes hq h
        refine lv_iconst (v := 0) hx hb dX4_turnPoint_141 (by decide) ?_
        obtain rfl := Option.some.inj h
        exact hr (Or.inl rfl) _ _ _ _ dX4_turnPoint_142 hP hS
      · replace h := if_no hq h
        refine lv_iconst (v := 1) hx hb dX4_turnPoint_137 (by decide) ?_
        refine lv_goto (tgt := 142) hx hb dX4_turnPoint_138 (by decide) ?_
        obtain rfl := Option.some.inj h
        exact hr (Or.inr rfl) _ _ _ _ dX4_turnPoint_142 hP hS
set_option maxHeartbeats 4000000 in
set_option maxRecDepth 100000 in
theorem t_X4_turnPoint {z : St × Int32} (hc : Cx p R s m args c D (tysWX g) A (WX a g) cX4_turnPoint 6 RX4 1 24) (hr : Rtz p l e R s m args below meth c Q D A (WX a g) cX4_turnPoint z) : ∀ (S : St) (v1 : Int32) (v2 : Int32), f_X4_turnPoint S v1 v2 = some z → Go p l e R s m args below meth c Q D A (WX a g) 6 S 0 [(0, .ref (a 1)), (1, .int v1), (2, .int v2)] [] := by
  obtain ⟨⟨hx, hb, hml, hown, hts⟩, -, -, -, hnf, hno⟩ := id hc
  intro S v1 v2 h H locs ls hP hS hl
  rw [f_X4_turnPoint] at h
  replace hl : lv_has ls 6 [(0, .ref (a 1)), (1, .int v1), (2, .int v2)] := hl
  refine lv_aload_n hx hb dX4_turnPoint_0 rfl (lv_at hl 0 rfl) ?_
  refine gfWX_Mesh_x hc hP q_47 dX4_turnPoint_1 ?_
  refine lv_iload_n hx hb dX4_turnPoint_4 rfl (lv_at hl 1 rfl) ?_
  obtain ⟨h1, h⟩ := chk_at h
  refine alWX_Mesh_x hc hP h1 dX4_turnPoint_5 ?_
  refine lv_topi (fun x2 ex2 => ?_)
  replace h := olet_at ex2 h
  refine lv_istore_n (lv' := [(3, .int x2), (0, .ref (a 1)), (1, .int v1), (2, .int v2)]) hx hb dX4_turnPoint_6 rfl hl (by decide) rfl (fun ls hl => ?_)
  refine lv_aload_n hx hb dX4_turnPoint_7 rfl (lv_at hl 1 rfl) ?_
  refine gfWX_Mesh_y hc hP q_48 dX4_turnPoint_8 ?_
  refine lv_iload_n hx hb dX4_turnPoint_11 rfl (lv_at hl 2 rfl) ?_
  obtain ⟨h3, h⟩ := chk_at h
  refine alWX_Mesh_y hc hP h3 dX4_turnPoint_12 ?_
  refine lv_topi (fun x4 ex4 => ?_)
  replace h := olet_at ex4 h
  refine lv_istore (lv' := [(4, .int x4), (3, .int x2), (0, .ref (a 1)), (1, .int v1), (2, .int v2)]) hx hb dX4_turnPoint_13 hl (by decide) rfl (fun ls hl => ?_)
  refine lv_aload_n hx hb dX4_turnPoint_15 rfl (lv_at hl 2 rfl) ?_
  refine gfWX_Mesh_z hc hP q_49 dX4_turnPoint_16 ?_
  refine lv_iload_n hx hb dX4_turnPoint_19 rfl (lv_at hl 3 rfl) ?_
  obtain ⟨h5, h⟩ := chk_at h
  refine alWX_Mesh_z hc hP h5 dX4_turnPoint_20 ?_
  refine lv_topi (fun x6 ex6 => ?_)
  replace h := olet_at ex6 h
  refine lv_istore (lv' := [(5, .int x6), (4, .int x4), (3, .int x2), (0, .ref (a 1)), (1, .int v1), (2, .int v2)]) hx hb dX4_turnPoint_21 hl (by decide) rfl (fun ls hl => ?_)
  refine lv_iload_n hx hb dX4_turnPoint_23 rfl (lv_at hl 5 rfl) ?_
  by_cases hsw : (v2).toInt < 0 ∨ 2 < (v2).toInt
  · replace h := if_yes hsw h
    refine lv_tableOut (tgt := 94) hx hb dX4_turnPoint_24 hsw (by decide) ?_
    refine lv_aload_n hx hb dX4_turnPoint_94 rfl (lv_at hl 3 rfl) ?_
    refine lv_iload_n hx hb dX4_turnPoint_95 rfl (lv_at hl 4 rfl) ?_
    refine lv_iload_n hx hb dX4_turnPoint_96 rfl (lv_at hl 2 rfl) ?_
    refine lv_iload hx hb dX4_turnPoint_97 (lv_at hl 1 rfl) ?_
    refine lv_iload hx hb dX4_turnPoint_99 (lv_at hl 0 rfl) ?_
    refine lv_ineg hx hb dX4_turnPoint_101 ?_
    obtain ⟨S7, hk8, h⟩ := ob1_at h
    refine cl_Vv (As := [.int v1, .int x2, .int x4, .int (-x6)]) (rest := []) hc k_X4_put q_146 (c_X4_put hk8) hP hS (WX_1 a g S) rfl rfl rfl hl (Nat.le_of_ble_eq_true rfl) dX4_turnPoint_102 (Nat.le_of_ble_eq_true rfl) (Nat.le_of_ble_eq_true rfl) rfl (fun H locs hP hS => ?_)
    exact t_X4_turnPoint_p105 hc hr S7 v1 x2 x4 x6 h H locs ls hP hS (lv_sub hl [3, 4, 2, 1, 0] rfl)
  replace h := if_no hsw h
  by_cases hs0 : v2 = 0
  · replace h := if_yes hs0 h
    refine lv_tableIn (off := 28) (tgt := 52) hx hb dX4_turnPoint_24 (fun h9 => hsw (Or.inl h9)) (fun h9 => hsw (Or.inr h9)) (by rw [hs0]; rfl) (by decide) ?_
    refine lv_aload_n hx hb dX4_turnPoint_52 rfl (lv_at hl 3 rfl) ?_
    refine lv_iload_n hx hb dX4_turnPoint_53 rfl (lv_at hl 4 rfl) ?_
    refine lv_iload_n hx hb dX4_turnPoint_54 rfl (lv_at hl 2 rfl) ?_
    refine lv_iload hx hb dX4_turnPoint_55 (lv_at hl 0 rfl) ?_
    refine lv_ineg hx hb dX4_turnPoint_57 ?_
    refine lv_iload hx hb dX4_turnPoint_58 (lv_at hl 1 rfl) ?_
    obtain ⟨S9, hk10, h⟩ := ob1_at h
    refine cl_Vv (As := [.int v1, .int x2, .int (-x6), .int x4]) (rest := []) hc k_X4_put q_146 (c_X4_put hk10) hP hS (WX_1 a g S) rfl rfl rfl hl (Nat.le_of_ble_eq_true rfl) dX4_turnPoint_60 (Nat.le_of_ble_eq_true rfl) (Nat.le_of_ble_eq_true rfl) rfl (fun H locs hP hS => ?_)
    refine lv_goto (tgt := 105) hx hb dX4_turnPoint_63 (by decide) ?_
    exact t_X4_turnPoint_p105 hc hr S9 v1 x2 x4 x6 h H locs ls hP hS (lv_sub hl [3, 4, 2, 1, 0] rfl)
  replace h := if_no hs0 h
  by_cases hs1 : v2 = 1
  · replace h := if_yes hs1 h
    refine lv_tableIn (off := 42) (tgt := 66) hx hb dX4_turnPoint_24 (fun h9 => hsw (Or.inl h9)) (fun h9 => hsw (Or.inr h9)) (by rw [hs1]; rfl) (by decide) ?_
    refine lv_aload_n hx hb dX4_turnPoint_66 rfl (lv_at hl 3 rfl) ?_
    refine lv_iload_n hx hb dX4_turnPoint_67 rfl (lv_at hl 4 rfl) ?_
    refine lv_iload hx hb dX4_turnPoint_68 (lv_at hl 0 rfl) ?_
    refine lv_iload hx hb dX4_turnPoint_70 (lv_at hl 1 rfl) ?_
    refine lv_iload_n hx hb dX4_turnPoint_72 rfl (lv_at hl 2 rfl) ?_
    refine lv_ineg hx hb dX4_turnPoint_73 ?_
    obtain ⟨S11, hk12, h⟩ := ob1_at h
    refine cl_Vv (As := [.int v1, .int x6, .int x4, .int (-x2)]) (rest := []) hc k_X4_put q_146 (c_X4_put hk12) hP hS (WX_1 a g S) rfl rfl rfl hl (Nat.le_of_ble_eq_true rfl) dX4_turnPoint_74 (Nat.le_of_ble_eq_true rfl) (Nat.le_of_ble_eq_true rfl) rfl (fun H locs hP hS => ?_)
    refine lv_goto (tgt := 105) hx hb dX4_turnPoint_77 (by decide) ?_
    exact t_X4_turnPoint_p105 hc hr S11 v1 x2 x4 x6 h H locs ls hP hS (lv_sub hl [3, 4, 2, 1, 0] rfl)
  replace h := if_no hs1 h
  by_cases hs2 : v2 = 2
  · replace h := if_yes hs2 h
    refine lv_tableIn (off := 56) (tgt := 80) hx hb dX4_turnPoint_24 (fun h9 => hsw (Or.inl h9)) (fun h9 => hsw (Or.inr h9)) (by rw [hs2]; rfl) (by decide) ?_
    refine lv_aload_n hx hb dX4_turnPoint_80 rfl (lv_at hl 3 rfl) ?_
    refine lv_iload_n hx hb dX4_turnPoint_81 rfl (lv_at hl 4 rfl) ?_
    refine lv_iload hx hb dX4_turnPoint_82 (lv_at hl 1 rfl) ?_
    refine lv_ineg hx hb dX4_turnPoint_84 ?_
    refine lv_iload_n hx hb dX4_turnPoint_85 rfl (lv_at hl 2 rfl) ?_
    refine lv_iload hx hb dX4_turnPoint_86 (lv_at hl 0 rfl) ?_
    obtain ⟨S13, hk14, h⟩ := ob1_at h
    refine cl_Vv (As := [.int v1, .int (-x4), .int x2, .int x6]) (rest := []) hc k_X4_put q_146 (c_X4_put hk14) hP hS (WX_1 a g S) rfl rfl rfl hl (Nat.le_of_ble_eq_true rfl) dX4_turnPoint_88 (Nat.le_of_ble_eq_true rfl) (Nat.le_of_ble_eq_true rfl) rfl (fun H locs hP hS => ?_)
    refine lv_goto (tgt := 105) hx hb dX4_turnPoint_91 (by decide) ?_
    exact t_X4_turnPoint_p105 hc hr S13 v1 x2 x4 x6 h H locs ls hP hS (lv_sub hl [3, 4, 2, 1, 0] rfl)
  replace h := if_no hs2 h
  cases h
abbrev rm_X4_turnPoint : Room := { frames := 1, cells := 0, slots := 0, locals := 24 }
theorem c_X4_turnPoint {l : Launch} {D : va_G} {a : Nat → Nat} {g : Nat → ClassId} {S : St} {v1 : Int32} {v2 : Int32} {z : St × Int32} (h : f_X4_turnPoint S v1 v2 = some z) : MetI l D (tysWX g) (WX a g) E0 yX4_turnPoint cX4_turnPoint 6 (some .boolean) rm_X4_turnPoint [.ref (a 1), .int v1, .int v2] S z := mk_z (WX_same a g) (by decide) z (Nat.le_of_ble_eq_true rfl) (fun p e s m args below meth c A Q hc hE hr => t_X4_turnPoint hc hr S v1 v2 h)
theorem k_X4_turnPoint : CalV RX4 yX4_turnPoint cX4_turnPoint 6 (some .boolean) rm_X4_turnPoint 2 := ⟨q_309, q_310, q_14, q_311, by decide +kernel, rfl, rfl⟩
set_option maxHeartbeats 4000000 in
set_option maxRecDepth 100000 in
theorem t_X4_faceWith_p7 {z : St × Int32} (hc : Cx p R s m args c D (tysWX g) A (WX a g) cX4_faceWith 5 RX4 2 44) (hr : Rti p l e R s m args below meth c Q D A (WX a g) cX4_faceWith z) : ∀ (fu : Nat) (S : St) (v1 : Int32) (v2 : Int32) (v4 : Int32), f_X4_faceWith_p7 fu S v1 v2 v4 = some z → Go p l e R s m args below meth c Q D A (WX a g) 5 S 7 [(0, .ref (a 1)), (1, .int v1), (2, .int v2), (4, .int v4)] [] := by
  obtain ⟨⟨hx, hb, hml, hown, hts⟩, -, -, -, hnf, hno⟩ := id hc
  intro fu
  induction fu with
  | zero =>
    intro S v1 v2 v4 h
    rw [f_X4_faceWith_p7] at h
    cases h
  | succ fu ih =>
    intro S v1 v2 v4 h H locs ls hP hS hl
    rw [f_X4_faceWith_p7] at h
    refine lv_iload hx hb dX4_faceWith_7 (lv_at hl 3 rfl) ?_
    refine lv_aload_n hx hb dX4_faceWith_9 rfl (lv_at hl 0 rfl) ?_
    refine gfWX_Mesh_faces hc hP q_190 dX4_faceWith_10 ?_
    refine lv_icmp_ge (tgt := 45) hx hb dX4_faceWith_13 (by decide) (fun hq => ?_) (fun hq => ?_)
    · replace h := if_yes hq h
      refine lv_bipush (v := -9) hx hb dX4_faceWith_45 (by decide) ?_
      obtain rfl := Option.some.inj h
      exact hr _ _ _ _ dX4_faceWith_47 hP hS
    · replace h := if_no hq h
      refine lv_aload_n hx hb dX4_faceWith_16 rfl (lv_at hl 0 rfl) ?_
      refine lv_iload hx hb dX4_faceWith_17 (lv_at hl 3 rfl) ?_
      refine lv_iload_n hx hb dX4_faceWith_19 rfl (lv_at hl 1 rfl) ?_
      obtain ⟨S1, x3, hk2, h⟩ := ob2_at h
      refine cl_Vi (As := [.int v4, .int v1]) (rest := []) hc k_X4_hasCorner q_191 (c_X4_hasCorner hk2) hP hS (WX_1 a g S) rfl rfl rfl hl (Nat.le_of_ble_eq_true rfl) dX4_faceWith_20 (Nat.le_of_ble_eq_true rfl) (Nat.le_of_ble_eq_true rfl) rfl (fun H locs hP hS => ?_)
      refine lv_if_eq (tgt := 39) hx hb dX4_faceWith_23 (by decide) (fun hq => ?_) (fun hq => ?_)
      · replace h := if_yes hq h
        obtain ⟨x4, ex4⟩ : ∃ y : Int32, y = v4 + (1 : Int32) := ⟨_, rfl⟩
        replace h := olet_at ex4 h
        refine lv_iinc (v := x4) (lv' := [(4, .int x4), (0, .ref (a 1)), (1, .int v1), (2, .int v2)]) hx hb dX4_faceWith_39 hl (k := 3) rfl (by rw [ex4]; rfl) (by decide) rfl (fun ls hl => ?_)
        refine lv_goto (tgt := 7) hx hb dX4_faceWith_42 (by decide) ?_
        exact ih S1 v1 v2 x4 h H locs ls hP hS (lv_sub hl [1, 2, 3, 0] rfl)
      · replace h := if_no hq h
        refine lv_aload_n hx hb dX4_faceWith_26 rfl (lv_at hl 0 rfl) ?_
        refine lv_iload hx hb dX4_faceWith_27 (lv_at hl 3 rfl) ?_
        refine lv_iload_n hx hb dX4_faceWith_29 rfl (lv_at hl 2 rfl) ?_
        obtain ⟨S5, x7, hk6, h⟩ := ob2_at h
        refine cl_Vi (As := [.int v4, .int v2]) (rest := []) hc k_X4_hasCorner q_191 (c_X4_hasCorner hk6) hP hS (WX_1 a g S1) rfl rfl rfl hl (Nat.le_of_ble_eq_true rfl) dX4_faceWith_30 (Nat.le_of_ble_eq_true rfl) (Nat.le_of_ble_eq_true rfl) rfl (fun H locs hP hS => ?_)
        refine lv_if_eq (tgt := 39) hx hb dX4_faceWith_33 (by decide) (fun hq => ?_) (fun hq => ?_)
        · replace h := if_yes hq h
          obtain ⟨x8, ex8⟩ : ∃ y : Int32, y = v4 + (1 : Int32) := ⟨_, rfl⟩
          replace h := olet_at ex8 h
          refine lv_iinc (v := x8) (lv' := [(4, .int x8), (0, .ref (a 1)), (1, .int v1), (2, .int v2)]) hx hb dX4_faceWith_39 hl (k := 3) rfl (by rw [ex8]; rfl) (by decide) rfl (fun ls hl => ?_)
          refine lv_goto (tgt := 7) hx hb dX4_faceWith_42 (by decide) ?_
          exact ih S5 v1 v2 x8 h H locs ls hP hS (lv_sub hl [1, 2, 3, 0] rfl)
        · replace h := if_no hq h
          refine lv_iload hx hb dX4_faceWith_36 (lv_at hl 3 rfl) ?_
          obtain rfl := Option.some.inj h
          exact hr _ _ _ _ dX4_faceWith_38 hP hS
set_option maxHeartbeats 4000000 in
set_option maxRecDepth 100000 in
theorem t_X4_faceWith {z : St × Int32} (hc : Cx p R s m args c D (tysWX g) A (WX a g) cX4_faceWith 5 RX4 2 44) (hr : Rti p l e R s m args below meth c Q D A (WX a g) cX4_faceWith z) : ∀ (S : St) (v1 : Int32) (v2 : Int32) (v3 : Int32), f_X4_faceWith S v1 v2 v3 = some z → Go p l e R s m args below meth c Q D A (WX a g) 5 S 0 [(0, .ref (a 1)), (1, .int v1), (2, .int v2), (3, .int v3)] [] := by
  obtain ⟨⟨hx, hb, hml, hown, hts⟩, -, -, -, hnf, hno⟩ := id hc
  intro S v1 v2 v3 h H locs ls hP hS hl
  rw [f_X4_faceWith] at h
  replace hl : lv_has ls 5 [(0, .ref (a 1)), (1, .int v1), (2, .int v2), (3, .int v3)] := hl
  refine lv_iload_n hx hb dX4_faceWith_0 rfl (lv_at hl 3 rfl) ?_
  refine lv_iconst (v := 0) hx hb dX4_faceWith_1 (by decide) ?_
  refine va_mmax hx hb (hml.trans hl.1.symm) hown (hts _ q_408) (hts _ q_392) (hts _ q_389) (hts _ q_393) (Nat.le_trans (Nat.le_of_ble_eq_true rfl) hnf) (Nat.le_trans (Nat.le_of_ble_eq_true rfl) hno) (Nat.zero_le _) (Nat.zero_le _) dX4_faceWith_2 ?_
  refine lv_topi (fun x1 ex1 => ?_)
  replace h := olet_at ex1 h
  refine lv_istore (lv' := [(4, .int x1), (0, .ref (a 1)), (1, .int v1), (2, .int v2), (3, .int v3)]) hx hb dX4_faceWith_5 hl (by decide) rfl (fun ls hl => ?_)
  exact t_X4_faceWith_p7 hc hr FU S v1 v2 x1 h H locs ls hP hS (lv_sub hl [1, 2, 3, 0] rfl)
abbrev rm_X4_faceWith : Room := { frames := 2, cells := 0, slots := 0, locals := 44 }
theorem c_X4_faceWith {l : Launch} {D : va_G} {a : Nat → Nat} {g : Nat → ClassId} {S : St} {v1 : Int32} {v2 : Int32} {v3 : Int32} {z : St × Int32} (h : f_X4_faceWith S v1 v2 v3 = some z) : MetI l D (tysWX g) (WX a g) E0 yX4_faceWith cX4_faceWith 5 (some .int) rm_X4_faceWith [.ref (a 1), .int v1, .int v2, .int v3] S z := mk_i (WX_same a g) (by decide) z (Nat.le_of_ble_eq_true rfl) (fun p e s m args below meth c A Q hc hE hr => t_X4_faceWith hc hr S v1 v2 v3 h)
theorem k_X4_faceWith : CalV RX4 yX4_faceWith cX4_faceWith 5 (some .int) rm_X4_faceWith 3 := ⟨q_405, q_406, q_14, q_407, by decide +kernel, rfl, rfl⟩
set_option maxHeartbeats 4000000 in
set_option maxRecDepth 100000 in
theorem t_X4_hasFace {z : St × Int32} (hc : Cx p R s m args c D (tysWX g) A (WX a g) cX4_hasFace 2 RX4 0 0) (hr : Rtz p l e R s m args below meth c Q D A (WX a g) cX4_hasFace z) : ∀ (S : St) (v1 : Int32), f_X4_hasFace S v1 = some z → Go p l e R s m args below meth c Q D A (WX a g) 2 S 0 [(0, .ref (a 1)), (1, .int v1)] [] := by
  obtain ⟨⟨hx, hb, hml, hown, hts⟩, -, -, -, hnf, hno⟩ := id hc
  intro S v1 h H locs ls hP hS hl
  rw [f_X4_hasFace] at h
  replace hl : lv_has ls 2 [(0, .ref (a 1)), (1, .int v1)] := hl
  refine lv_iload_n hx hb dX4_hasFace_0 rfl (lv_at hl 1 rfl) ?_
  refine lv_if_lt (tgt := 16) hx hb dX4_hasFace_1 (by decide) (fun hq => ?_) (fun hq => ?_)
  · replace h := if_yes hq h
    refine lv_iconst (v := 0) hx hb dX4_hasFace_16 (by decide) ?_
    obtain rfl := Option.some.inj h
    exact hr (Or.inl rfl) _ _ _ _ dX4_hasFace_17 hP hS
  · replace h := if_no hq h
    refine lv_iload_n hx hb dX4_hasFace_4 rfl (lv_at hl 1 rfl) ?_
    refine lv_aload_n hx hb dX4_hasFace_5 rfl (lv_at hl 0 rfl) ?_
    refine gfWX_Mesh_faces hc hP q_190 dX4_hasFace_6 ?_
    refine lv_icmp_ge (tgt := 16) hx hb dX4_hasFace_9 (by decide) (fun hq => ?_) (fun hq => ?_)
    · replace h := if_yes hq h
      refine lv_iconst (v := 0) hx hb dX4_hasFace_16 (by decide) ?_
      obtain rfl := Option.some.inj h
      exact hr (Or.inl rfl) _ _ _ _ dX4_hasFace_17 hP hS
    · replace h := if_no hq h
      refine lv_iconst (v := 1) hx hb dX4_hasFace_12 (by decide) ?_
      refine lv_goto (tgt := 17) hx hb dX4_hasFace_13 (by decide) ?_
      obtain rfl := Option.some.inj h
      exact hr (Or.inr rfl) _ _ _ _ dX4_hasFace_17 hP hS
abbrev rm_X4_hasFace : Room := { frames := 0, cells := 0, slots := 0, locals := 0 }
theorem c_X4_hasFace {l : Launch} {D : va_G} {a : Nat → Nat} {g : Nat → ClassId} {S : St} {v1 : Int32} {z : St × Int32} (h : f_X4_hasFace S v1 = some z) : MetI l D (tysWX g) (WX a g) E0 yX4_hasFace cX4_hasFace 2 (some .boolean) rm_X4_hasFace [.ref (a 1), .int v1] S z := mk_z (WX_same a g) (by decide) z (Nat.le_of_ble_eq_true rfl) (fun p e s m args below meth c A Q hc hE hr => t_X4_hasFace hc hr S v1 h)
theorem k_X4_hasFace : CalV RX4 yX4_hasFace cX4_hasFace 2 (some .boolean) rm_X4_hasFace 1 := ⟨q_637, q_638, q_14, q_639, by decide +kernel, rfl, rfl⟩
end W
