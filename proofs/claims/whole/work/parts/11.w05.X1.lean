section W
variable {p : Program} {l : Launch} {e : Env} {R : Room} {s : State} {m : MethodId} {args : Array Value} {below : List Frame} {meth : Method} {c : Code} {Q : State → Prop} {D : va_G} {A : Nat → Prop} {a : Nat → Nat} {g : Nat → ClassId}
set_option maxHeartbeats 4000000 in
set_option maxRecDepth 100000 in
theorem t_X1_share {z : SZ} (hc : Cx p R s m args c D (tysWX g) A (WX a g) cX1_share 3 RX1 1 21) (hr : Rtv p l e R s m args below meth c Q D A (WX a g) cX1_share (em z)) : ∀ (S : SZ) (v1 : Int) (v2 : Int), f_X1_share S v1 v2 = some z → Go p l e R s m args below meth c Q D A (WX a g) 3 (em S) 0 [(0, .ref (a 3)), (1, .int (Int32.ofInt v1)), (2, .int (Int32.ofInt v2))] [] := by
  obtain ⟨⟨hx, hb, hml, hown, hts⟩, -, -, -, hnf, hno⟩ := id hc
  intro S v1 v2 h H locs ls hP hS hl
  rw [f_X1_share] at h
  replace hl : lv_has ls 3 [(0, .ref (a 3)), (1, .int (Int32.ofInt v1)), (2, .int (Int32.ofInt v2))] := hl
  refine lv_aload_n hx hb dX1_share_0 rfl (lv_at hl 0 rfl) ?_
  refine gfWX_Edges_shared hc hP q_67 dX1_share_1 ?_
  refine lv_iload_n hx hb dX1_share_4 rfl (lv_at hl 1 rfl) ?_
  refine lv_iload_n hx hb dX1_share_5 rfl (lv_at hl 2 rfl) ?_
  obtain ⟨h1, h⟩ := chk_at h
  obtain ⟨h2, h⟩ := chk_at h
  refine z_mmin hx hb (hml.trans hl.1.symm) hown (hts _ q_387) (hts _ q_388) (hts _ q_389) (hts _ q_390) (Nat.le_trans (Nat.le_of_ble_eq_true rfl) hnf) (Nat.le_trans (Nat.le_of_ble_eq_true rfl) hno) h1 h2 dX1_share_6 ?_
  refine lv_bipush (v := Int32.ofInt (16 : Int)) hx hb dX1_share_9 (by decide) ?_
  refine z_imul hx hb dX1_share_11 ?_
  refine lv_iload_n hx hb dX1_share_12 rfl (lv_at hl 1 rfl) ?_
  refine lv_iload_n hx hb dX1_share_13 rfl (lv_at hl 2 rfl) ?_
  refine z_mmax hx hb (hml.trans hl.1.symm) hown (hts _ q_391) (hts _ q_392) (hts _ q_389) (hts _ q_393) (Nat.le_trans (Nat.le_of_ble_eq_true rfl) hnf) (Nat.le_trans (Nat.le_of_ble_eq_true rfl) hno) h1 h2 dX1_share_14 ?_
  refine z_iadd hx hb dX1_share_17 ?_
  refine lv_dup2_11 hx hb dX1_share_18 rfl rfl ?_
  obtain ⟨h3, h⟩ := chk_at h
  refine azWX_Edges_shared hc hP h3 dX1_share_19 ?_
  refine lv_iconst (v := Int32.ofInt (1 : Int)) hx hb dX1_share_20 (by decide) ?_
  refine z_iadd hx hb dX1_share_21 ?_
  refine szWX_Edges_shared hc hP hS h3 dX1_share_22 (fun H locs hP hS => ?_)
  obtain ⟨S4, eS4⟩ : ∃ z, z = ua S 12 ((((if v2 < v1 then v2 else v1) * (16 : Int)) + (if v1 < v2 then v2 else v1))).toNat ((za S 12 ((((if v2 < v1 then v2 else v1) * (16 : Int)) + (if v1 < v2 then v2 else v1))).toNat) + (1 : Int)) := ⟨_, rfl⟩
  replace h := olet_at eS4 h
  rw [← eS4] at hP
  obtain rfl := Option.some.inj h
  exact hr _ _ _ _ dX1_share_23 hP hS
abbrev rm_X1_share : Room := { frames := 1, cells := 0, slots := 0, locals := 21 }
theorem c_X1_share {l : Launch} {D : va_G} {a : Nat → Nat} {g : Nat → ClassId} {S : SZ} {v1 : Int} {v2 : Int} {z : SZ} (h : f_X1_share S v1 v2 = some z) : MetV l D (tysWX g) (WX a g) E0 yX1_share cX1_share 3 none rm_X1_share [.ref (a 3), .int (Int32.ofInt v1), .int (Int32.ofInt v2)] (em S) (em z) := mk_v (WX_same a g) (by decide) (em z) (Nat.le_of_ble_eq_true rfl) (fun p e s m args below meth c A Q hc hE hr => t_X1_share (z := z) hc hr S v1 v2 h)
theorem k_X1_share : CalV RX1 yX1_share cX1_share 3 none rm_X1_share 2 := ⟨q_384, q_385, q_22, q_386, by decide +kernel, rfl, rfl⟩
set_option maxHeartbeats 4000000 in
set_option maxRecDepth 100000 in
theorem t_X1_append {z : SZ} (hc : Cx p R s m args c D (tysWX g) A (WX a g) cX1_append 3 RX1 0 0) (hr : Rtv p l e R s m args below meth c Q D A (WX a g) cX1_append (em z)) : ∀ (S : SZ) (v1 : Int) (v2 : Int), f_X1_append S v1 v2 = some z → Go p l e R s m args below meth c Q D A (WX a g) 3 (em S) 0 [(0, .ref (a 3)), (1, .int (Int32.ofInt v1)), (2, .int (Int32.ofInt v2))] [] := by
  obtain ⟨⟨hx, hb, hml, hown, hts⟩, -, -, -, hnf, hno⟩ := id hc
  intro S v1 v2 h H locs ls hP hS hl
  rw [f_X1_append] at h
  replace hl : lv_has ls 3 [(0, .ref (a 3)), (1, .int (Int32.ofInt v1)), (2, .int (Int32.ofInt v2))] := hl
  refine lv_aload_n hx hb dX1_append_0 rfl (lv_at hl 0 rfl) ?_
  refine gfWX_Edges_number hc hP q_66 dX1_append_1 ?_
  refine lv_iload_n hx hb dX1_append_4 rfl (lv_at hl 1 rfl) ?_
  refine lv_bipush (v := Int32.ofInt (16 : Int)) hx hb dX1_append_5 (by decide) ?_
  refine z_imul hx hb dX1_append_7 ?_
  refine lv_iload_n hx hb dX1_append_8 rfl (lv_at hl 2 rfl) ?_
  refine z_iadd hx hb dX1_append_9 ?_
  refine lv_aload_n hx hb dX1_append_10 rfl (lv_at hl 0 rfl) ?_
  refine gzWX_Edges_count hc hP q_376 dX1_append_11 ?_
  obtain ⟨h1, h⟩ := chk_at h
  refine szWX_Edges_number hc hP hS h1 dX1_append_14 (fun H locs hP hS => ?_)
  obtain ⟨S2, eS2⟩ : ∃ z, z = ua S 11 (((v1 * (16 : Int)) + v2)).toNat (zi S 9) := ⟨_, rfl⟩
  replace h := olet_at eS2 h
  rw [← eS2] at hP
  refine lv_aload_n hx hb dX1_append_15 rfl (lv_at hl 0 rfl) ?_
  refine gfWX_Edges_number hc hP q_66 dX1_append_16 ?_
  refine lv_iload_n hx hb dX1_append_19 rfl (lv_at hl 2 rfl) ?_
  refine lv_bipush (v := Int32.ofInt (16 : Int)) hx hb dX1_append_20 (by decide) ?_
  refine z_imul hx hb dX1_append_22 ?_
  refine lv_iload_n hx hb dX1_append_23 rfl (lv_at hl 1 rfl) ?_
  refine z_iadd hx hb dX1_append_24 ?_
  refine lv_aload_n hx hb dX1_append_25 rfl (lv_at hl 0 rfl) ?_
  refine gzWX_Edges_count hc hP q_376 dX1_append_26 ?_
  obtain ⟨h3, h⟩ := chk_at h
  refine szWX_Edges_number hc hP hS h3 dX1_append_29 (fun H locs hP hS => ?_)
  obtain ⟨S4, eS4⟩ : ∃ z, z = ua S2 11 (((v2 * (16 : Int)) + v1)).toNat (zi S2 9) := ⟨_, rfl⟩
  replace h := olet_at eS4 h
  rw [← eS4] at hP
  refine lv_aload_n hx hb dX1_append_30 rfl (lv_at hl 0 rfl) ?_
  refine gfWX_Edges_low hc hP q_68 dX1_append_31 ?_
  refine lv_aload_n hx hb dX1_append_34 rfl (lv_at hl 0 rfl) ?_
  refine gzWX_Edges_count hc hP q_376 dX1_append_35 ?_
  refine lv_iload_n hx hb dX1_append_38 rfl (lv_at hl 1 rfl) ?_
  obtain ⟨h5, h⟩ := chk_at h
  refine szWX_Edges_low hc hP hS h5 dX1_append_39 (fun H locs hP hS => ?_)
  obtain ⟨S6, eS6⟩ : ∃ z, z = ua S4 13 ((zi S4 9)).toNat v1 := ⟨_, rfl⟩
  replace h := olet_at eS6 h
  rw [← eS6] at hP
  refine lv_aload_n hx hb dX1_append_40 rfl (lv_at hl 0 rfl) ?_
  refine gfWX_Edges_high hc hP q_69 dX1_append_41 ?_
  refine lv_aload_n hx hb dX1_append_44 rfl (lv_at hl 0 rfl) ?_
  refine gzWX_Edges_count hc hP q_376 dX1_append_45 ?_
  refine lv_iload_n hx hb dX1_append_48 rfl (lv_at hl 2 rfl) ?_
  obtain ⟨h7, h⟩ := chk_at h
  refine szWX_Edges_high hc hP hS h7 dX1_append_49 (fun H locs hP hS => ?_)
  obtain ⟨S8, eS8⟩ : ∃ z, z = ua S6 14 ((zi S6 9)).toNat v2 := ⟨_, rfl⟩
  replace h := olet_at eS8 h
  rw [← eS8] at hP
  refine lv_aload_n hx hb dX1_append_50 rfl (lv_at hl 0 rfl) ?_
  refine gfWX_Edges_sharing hc hP q_70 dX1_append_51 ?_
  refine lv_aload_n hx hb dX1_append_54 rfl (lv_at hl 0 rfl) ?_
  refine gzWX_Edges_count hc hP q_376 dX1_append_55 ?_
  refine lv_aload_n hx hb dX1_append_58 rfl (lv_at hl 0 rfl) ?_
  refine gfWX_Edges_shared hc hP q_67 dX1_append_59 ?_
  refine lv_iload_n hx hb dX1_append_62 rfl (lv_at hl 1 rfl) ?_
  refine lv_bipush (v := Int32.ofInt (16 : Int)) hx hb dX1_append_63 (by decide) ?_
  refine z_imul hx hb dX1_append_65 ?_
  refine lv_iload_n hx hb dX1_append_66 rfl (lv_at hl 2 rfl) ?_
  refine z_iadd hx hb dX1_append_67 ?_
  refine azWX_Edges_shared hc hP h1 dX1_append_68 ?_
  obtain ⟨h9, h⟩ := chk_at h
  refine szWX_Edges_sharing hc hP hS h9 dX1_append_69 (fun H locs hP hS => ?_)
  obtain ⟨S10, eS10⟩ : ∃ z, z = ua S8 15 ((zi S8 9)).toNat (za S8 12 (((v1 * (16 : Int)) + v2)).toNat) := ⟨_, rfl⟩
  replace h := olet_at eS10 h
  rw [← eS10] at hP
  refine lv_aload_n hx hb dX1_append_70 rfl (lv_at hl 0 rfl) ?_
  refine lv_dup hx hb dX1_append_71 rfl ?_
  refine gzWX_Edges_count hc hP q_376 dX1_append_72 ?_
  refine lv_iconst (v := Int32.ofInt (1 : Int)) hx hb dX1_append_75 (by decide) ?_
  refine z_iadd hx hb dX1_append_76 ?_
  refine pzWX_Edges_count hc hP hS q_376 dX1_append_77 (fun H locs hP hS => ?_)
  obtain ⟨S11, eS11⟩ : ∃ z, z = ui S10 9 ((zi S10 9) + (1 : Int)) := ⟨_, rfl⟩
  replace h := olet_at eS11 h
  rw [← eS11] at hP
  obtain rfl := Option.some.inj h
  exact hr _ _ _ _ dX1_append_80 hP hS
abbrev rm_X1_append : Room := { frames := 0, cells := 0, slots := 0, locals := 0 }
theorem c_X1_append {l : Launch} {D : va_G} {a : Nat → Nat} {g : Nat → ClassId} {S : SZ} {v1 : Int} {v2 : Int} {z : SZ} (h : f_X1_append S v1 v2 = some z) : MetV l D (tysWX g) (WX a g) E0 yX1_append cX1_append 3 none rm_X1_append [.ref (a 3), .int (Int32.ofInt v1), .int (Int32.ofInt v2)] (em S) (em z) := mk_v (WX_same a g) (by decide) (em z) (Nat.le_of_ble_eq_true rfl) (fun p e s m args below meth c A Q hc hE hr => t_X1_append (z := z) hc hr S v1 v2 h)
theorem k_X1_append : CalV RX1 yX1_append cX1_append 3 none rm_X1_append 2 := ⟨q_396, q_397, q_22, q_398, by decide +kernel, rfl, rfl⟩
set_option maxHeartbeats 4000000 in
set_option maxRecDepth 100000 in
theorem t_X1_inOnePlane_p3 {z : SZ × Int} (hc : Cx p R s m args c D (tysWX g) A (WX a g) cX1_inOnePlane 5 RX1 2 46) (hr : Rtz p l e R s m args below meth c Q D A (WX a g) cX1_inOnePlane (em z.1, Int32.ofInt z.2)) : ∀ (fu : Nat) (S : SZ) (v2 : Int) (v3 : Int) (v4 : Int), f_X1_inOnePlane_p3 fu S v2 v3 v4 = some z → Go p l e R s m args below meth c Q D A (WX a g) 5 (em S) 3 [(0, .ref (a 1)), (1, .ref (a 2)), (2, .int (Int32.ofInt v2)), (3, .int (Int32.ofInt v3)), (4, .int (Int32.ofInt v4))] [] := by
  obtain ⟨⟨hx, hb, hml, hown, hts⟩, -, -, -, hnf, hno⟩ := id hc
  intro fu
  induction fu with
  | zero =>
    intro S v2 v3 v4 h
    rw [f_X1_inOnePlane_p3] at h
    cases h
  | succ fu ih =>
    intro S v2 v3 v4 h H locs ls hP hS hl
    rw [f_X1_inOnePlane_p3] at h
    refine lv_iload hx hb dX1_inOnePlane_3 (lv_at hl 4 rfl) ?_
    refine lv_iconst (v := Int32.ofInt (3 : Int)) hx hb dX1_inOnePlane_5 (by decide) ?_
    obtain ⟨h1, h⟩ := chk_at h
    refine z_icmp_ge (tgt := 33) hx hb h1 (by decide) dX1_inOnePlane_6 (by decide) (fun hq => ?_) (fun hq => ?_)
    · replace h := if_yes hq h
      refine lv_iconst (v := Int32.ofInt (1 : Int)) hx hb dX1_inOnePlane_33 (by decide) ?_
      obtain rfl := Option.some.inj h
      exact hr (bit_of (Or.inr rfl)) _ _ _ _ dX1_inOnePlane_34 hP hS
    · replace h := if_no hq h
      refine lv_aload_n hx hb dX1_inOnePlane_9 rfl (lv_at hl 1 rfl) ?_
      refine lv_aload_n hx hb dX1_inOnePlane_10 rfl (lv_at hl 0 rfl) ?_
      refine lv_iload_n hx hb dX1_inOnePlane_11 rfl (lv_at hl 2 rfl) ?_
      refine lv_aload_n hx hb dX1_inOnePlane_12 rfl (lv_at hl 0 rfl) ?_
      refine lv_iload_n hx hb dX1_inOnePlane_13 rfl (lv_at hl 3 rfl) ?_
      refine lv_iload hx hb dX1_inOnePlane_14 (lv_at hl 4 rfl) ?_
      obtain ⟨S2, x4, hk3, h⟩ := ob2_at h
      refine cl_Vi (As := [.int (Int32.ofInt v3), .int (Int32.ofInt v4)]) (rest := [.int (Int32.ofInt v2), .ref (a 1), .ref (a 2)]) hc k_X4_cornerOf q_382 (c_X4_cornerOf hk3) hP hS (WX_1 a g (em S)) rfl rfl rfl hl (Nat.le_of_ble_eq_true rfl) dX1_inOnePlane_16 (Nat.le_of_ble_eq_true rfl) (Nat.le_of_ble_eq_true rfl) rfl (fun H locs hP hS => ?_)
      obtain ⟨S5, x7, hk6, h⟩ := ob2_at h
      refine cl_Vi (As := [.ref (a 1), .int (Int32.ofInt v2), .int (Int32.ofInt x4)]) (rest := []) hc k_X6_depth q_412 (c_X6_depth hk6) hP hS (WX_2 a g (em S2)) rfl rfl rfl hl (Nat.le_of_ble_eq_true rfl) dX1_inOnePlane_19 (Nat.le_of_ble_eq_true rfl) (Nat.le_of_ble_eq_true rfl) rfl (fun H locs hP hS => ?_)
      obtain ⟨h8, h⟩ := chk_at h
      refine z_if_eq (tgt := 27) hx hb h8 dX1_inOnePlane_22 (by decide) (fun hq => ?_) (fun hq => ?_)
      · replace h := if_yes hq h
        obtain ⟨x9, ex9⟩ : ∃ y : Int, y = v4 + (1 : Int) := ⟨_, rfl⟩
        replace h := olet_at ex9 h
        refine lv_iinc (v := Int32.ofInt x9) (lv' := [(4, .int (Int32.ofInt x9)), (0, .ref (a 1)), (1, .ref (a 2)), (2, .int (Int32.ofInt v2)), (3, .int (Int32.ofInt v3))]) hx hb dX1_inOnePlane_27 hl (k := 4) rfl (by rw [ex9, Int32.ofInt_add]) (by decide) rfl (fun ls hl => ?_)
        refine lv_goto (tgt := 3) hx hb dX1_inOnePlane_30 (by decide) ?_
        exact ih S5 v2 v3 x9 h H locs ls hP hS (lv_sub hl [1, 2, 3, 4, 0] rfl)
      · replace h := if_no hq h
        refine lv_iconst (v := Int32.ofInt (0 : Int)) hx hb dX1_inOnePlane_25 (by decide) ?_
        obtain rfl := Option.some.inj h
        exact hr (bit_of (Or.inl rfl)) _ _ _ _ dX1_inOnePlane_26 hP hS
set_option maxHeartbeats 4000000 in
set_option maxRecDepth 100000 in
theorem t_X1_inOnePlane {z : SZ × Int} (hc : Cx p R s m args c D (tysWX g) A (WX a g) cX1_inOnePlane 5 RX1 2 46) (hr : Rtz p l e R s m args below meth c Q D A (WX a g) cX1_inOnePlane (em z.1, Int32.ofInt z.2)) : ∀ (S : SZ) (v2 : Int) (v3 : Int), f_X1_inOnePlane S v2 v3 = some z → Go p l e R s m args below meth c Q D A (WX a g) 5 (em S) 0 [(0, .ref (a 1)), (1, .ref (a 2)), (2, .int (Int32.ofInt v2)), (3, .int (Int32.ofInt v3))] [] := by
  obtain ⟨⟨hx, hb, hml, hown, hts⟩, -, -, -, hnf, hno⟩ := id hc
  intro S v2 v3 h H locs ls hP hS hl
  rw [f_X1_inOnePlane] at h
  replace hl : lv_has ls 5 [(0, .ref (a 1)), (1, .ref (a 2)), (2, .int (Int32.ofInt v2)), (3, .int (Int32.ofInt v3))] := hl
  refine lv_iconst (v := Int32.ofInt (0 : Int)) hx hb dX1_inOnePlane_0 (by decide) ?_
  refine lv_istore (lv' := [(4, .int (Int32.ofInt (0 : Int))), (0, .ref (a 1)), (1, .ref (a 2)), (2, .int (Int32.ofInt v2)), (3, .int (Int32.ofInt v3))]) hx hb dX1_inOnePlane_1 hl (by decide) rfl (fun ls hl => ?_)
  exact t_X1_inOnePlane_p3 hc hr FU S v2 v3 (0 : Int) h H locs ls hP hS (lv_sub hl [1, 2, 3, 4, 0] rfl)
abbrev rm_X1_inOnePlane : Room := { frames := 2, cells := 0, slots := 0, locals := 46 }
theorem c_X1_inOnePlane {l : Launch} {D : va_G} {a : Nat → Nat} {g : Nat → ClassId} {S : SZ} {v2 : Int} {v3 : Int} {Z1 : SZ} {r1 : Int} (h : f_X1_inOnePlane S v2 v3 = some (Z1, r1)) : MetI l D (tysWX g) (WX a g) E0 yX1_inOnePlane cX1_inOnePlane 5 (some .boolean) rm_X1_inOnePlane [.ref (a 1), .ref (a 2), .int (Int32.ofInt v2), .int (Int32.ofInt v3)] (em S) (em Z1, Int32.ofInt r1) := mk_z (WX_same a g) (by decide) (em Z1, Int32.ofInt r1) (Nat.le_of_ble_eq_true rfl) (fun p e s m args below meth c A Q hc hE hr => t_X1_inOnePlane (z := (Z1, r1)) hc hr S v2 v3 h)
theorem k_X1_inOnePlane : CalS yX1_inOnePlane cX1_inOnePlane 5 (some .boolean) rm_X1_inOnePlane 4 := ⟨q_410, q_22, q_411, by decide +kernel, rfl, rfl⟩
set_option maxHeartbeats 4000000 in
set_option maxRecDepth 100000 in
theorem t_X1_sortOf_p105 {z : SZ × Int} (hc : Cx p R s m args c D (tysWX g) A (WX a g) cX1_sortOf 6 RX1 3 70) (hr : Rti p l e R s m args below meth c Q D A (WX a g) cX1_sortOf (em z.1, Int32.ofInt z.2)) : ∀ (S : SZ) (v5 : Int) (s0 : Int), f_X1_sortOf_p105 S v5 s0 = some z → Go p l e R s m args below meth c Q D A (WX a g) 6 (em S) 105 [(2, .ref (a 2)), (5, .int (Int32.ofInt v5))] [.int (Int32.ofInt s0)] := by
  obtain ⟨⟨hx, hb, hml, hown, hts⟩, -, -, -, hnf, hno⟩ := id hc
  intro S v5 s0 h H locs ls hP hS hl
  rw [f_X1_sortOf_p105] at h
  refine lv_aload_n hx hb dX1_sortOf_105 rfl (lv_at hl 0 rfl) ?_
  refine gfWX_Sight_swing hc hP q_403 dX1_sortOf_106 ?_
  refine lv_iload hx hb dX1_sortOf_109 (lv_at hl 1 rfl) ?_
  obtain ⟨h1, h⟩ := chk_at h
  refine azWX_Sight_swing hc hP h1 dX1_sortOf_111 ?_
  obtain ⟨h2, h⟩ := chk_at h
  refine z_if_le (tgt := 119) hx hb h2 dX1_sortOf_112 (by decide) (fun hq => ?_) (fun hq => ?_)
  · replace h := if_yes hq h
    refine lv_iconst (v := Int32.ofInt (0 : Int)) hx hb dX1_sortOf_119 (by decide) ?_
    obtain ⟨h3, h⟩ := chk_at h
    refine z_icmp_eq (tgt := 127) hx hb h3 (by decide) dX1_sortOf_120 (by decide) (fun hq => ?_) (fun hq => ?_)
    · replace h := if_yes hq h
      refine lv_iconst (v := Int32.ofInt (4 : Int)) hx hb dX1_sortOf_127 (by decide) ?_
      obtain rfl := Option.some.inj h
      exact hr _ _ _ _ dX1_sortOf_128 hP hS
    · replace h := if_no hq h
      refine lv_iconst (v := Int32.ofInt (3 : Int)) hx hb dX1_sortOf_123 (by decide) ?_
      refine lv_goto (tgt := 128) hx hb dX1_sortOf_124 (by decide) ?_
      obtain rfl := Option.some.inj h
      exact hr _ _ _ _ dX1_sortOf_128 hP hS
  · replace h := if_no hq h
    refine lv_iconst (v := Int32.ofInt (1 : Int)) hx hb dX1_sortOf_115 (by decide) ?_
    refine lv_goto (tgt := 120) hx hb dX1_sortOf_116 (by decide) ?_
    obtain ⟨h4, h⟩ := chk_at h
    refine z_icmp_eq (tgt := 127) hx hb h4 (by decide) dX1_sortOf_120 (by decide) (fun hq => ?_) (fun hq => ?_)
    · replace h := if_yes hq h
      refine lv_iconst (v := Int32.ofInt (4 : Int)) hx hb dX1_sortOf_127 (by decide) ?_
      obtain rfl := Option.some.inj h
      exact hr _ _ _ _ dX1_sortOf_128 hP hS
    · replace h := if_no hq h
      refine lv_iconst (v := Int32.ofInt (3 : Int)) hx hb dX1_sortOf_123 (by decide) ?_
      refine lv_goto (tgt := 128) hx hb dX1_sortOf_124 (by decide) ?_
      obtain rfl := Option.some.inj h
      exact hr _ _ _ _ dX1_sortOf_128 hP hS
set_option maxHeartbeats 4000000 in
set_option maxRecDepth 100000 in
theorem t_X1_sortOf {z : SZ × Int} (hc : Cx p R s m args c D (tysWX g) A (WX a g) cX1_sortOf 6 RX1 3 70) (hr : Rti p l e R s m args below meth c Q D A (WX a g) cX1_sortOf (em z.1, Int32.ofInt z.2)) : ∀ (S : SZ) (v3 : Int), f_X1_sortOf S v3 = some z → Go p l e R s m args below meth c Q D A (WX a g) 6 (em S) 0 [(0, .ref (a 3)), (1, .ref (a 1)), (2, .ref (a 2)), (3, .int (Int32.ofInt v3))] [] := by
  obtain ⟨⟨hx, hb, hml, hown, hts⟩, -, -, -, hnf, hno⟩ := id hc
  intro S v3 h H locs ls hP hS hl
  rw [f_X1_sortOf] at h
  replace hl : lv_has ls 6 [(0, .ref (a 3)), (1, .ref (a 1)), (2, .ref (a 2)), (3, .int (Int32.ofInt v3))] := hl
  refine lv_aload_n hx hb dX1_sortOf_0 rfl (lv_at hl 0 rfl) ?_
  refine gfWX_Edges_sharing hc hP q_70 dX1_sortOf_1 ?_
  refine lv_iload_n hx hb dX1_sortOf_4 rfl (lv_at hl 3 rfl) ?_
  obtain ⟨h1, h⟩ := chk_at h
  refine azWX_Edges_sharing hc hP h1 dX1_sortOf_5 ?_
  obtain ⟨h2, h⟩ := chk_at h
  refine z_if_ne (tgt := 11) hx hb h2 dX1_sortOf_6 (by decide) (fun hq => ?_) (fun hq => ?_)
  · replace h := if_no hq h
    refine lv_aload_n hx hb dX1_sortOf_11 rfl (lv_at hl 1 rfl) ?_
    refine lv_aload_n hx hb dX1_sortOf_12 rfl (lv_at hl 0 rfl) ?_
    refine gfWX_Edges_low hc hP q_68 dX1_sortOf_13 ?_
    refine lv_iload_n hx hb dX1_sortOf_16 rfl (lv_at hl 3 rfl) ?_
    refine azWX_Edges_low hc hP h1 dX1_sortOf_17 ?_
    refine lv_aload_n hx hb dX1_sortOf_18 rfl (lv_at hl 0 rfl) ?_
    refine gfWX_Edges_high hc hP q_69 dX1_sortOf_19 ?_
    refine lv_iload_n hx hb dX1_sortOf_22 rfl (lv_at hl 3 rfl) ?_
    refine azWX_Edges_high hc hP h1 dX1_sortOf_23 ?_
    refine lv_iconst (v := Int32.ofInt (0 : Int)) hx hb dX1_sortOf_24 (by decide) ?_
    obtain ⟨S3, x5, hk4, h⟩ := ob2_at h
    refine cl_Vi (As := [.int (Int32.ofInt (za S 13 (v3).toNat)), .int (Int32.ofInt (za S 14 (v3).toNat)), .int (Int32.ofInt (0 : Int))]) (rest := []) hc k_X4_faceWith q_404 (c_X4_faceWith hk4) hP hS (WX_1 a g (em S)) rfl rfl rfl hl (Nat.le_of_ble_eq_true rfl) dX1_sortOf_25 (Nat.le_of_ble_eq_true rfl) (Nat.le_of_ble_eq_true rfl) rfl (fun H locs hP hS => ?_)
    refine lv_istore (lv' := [(4, .int (Int32.ofInt x5)), (0, .ref (a 3)), (1, .ref (a 1)), (2, .ref (a 2)), (3, .int (Int32.ofInt v3))]) hx hb dX1_sortOf_28 hl (by decide) rfl (fun ls hl => ?_)
    refine lv_aload_n hx hb dX1_sortOf_30 rfl (lv_at hl 2 rfl) ?_
    refine lv_aload_n hx hb dX1_sortOf_31 rfl (lv_at hl 1 rfl) ?_
    refine gfWX_Edges_low hc hP q_68 dX1_sortOf_32 ?_
    refine lv_iload_n hx hb dX1_sortOf_35 rfl (lv_at hl 4 rfl) ?_
    refine azWX_Edges_low hc hP h1 dX1_sortOf_36 ?_
    refine lv_aload_n hx hb dX1_sortOf_37 rfl (lv_at hl 1 rfl) ?_
    refine gfWX_Edges_high hc hP q_69 dX1_sortOf_38 ?_
    refine lv_iload_n hx hb dX1_sortOf_41 rfl (lv_at hl 4 rfl) ?_
    refine azWX_Edges_high hc hP h1 dX1_sortOf_42 ?_
    refine lv_iload hx hb dX1_sortOf_43 (lv_at hl 0 rfl) ?_
    refine lv_iconst (v := Int32.ofInt (1 : Int)) hx hb dX1_sortOf_45 (by decide) ?_
    refine z_iadd hx hb dX1_sortOf_46 ?_
    obtain ⟨S6, x8, hk7, h⟩ := ob2_at h
    refine cl_Vi (As := [.int (Int32.ofInt (za S3 13 (v3).toNat)), .int (Int32.ofInt (za S3 14 (v3).toNat)), .int (Int32.ofInt (x5 + (1 : Int)))]) (rest := []) hc k_X4_faceWith q_404 (c_X4_faceWith hk7) hP hS (WX_1 a g (em S3)) rfl rfl rfl hl (Nat.le_of_ble_eq_true rfl) dX1_sortOf_47 (Nat.le_of_ble_eq_true rfl) (Nat.le_of_ble_eq_true rfl) rfl (fun H locs hP hS => ?_)
    refine lv_istore (lv' := [(5, .int (Int32.ofInt x8)), (4, .int (Int32.ofInt x5)), (0, .ref (a 3)), (1, .ref (a 1)), (2, .ref (a 2)), (3, .int (Int32.ofInt v3))]) hx hb dX1_sortOf_50 hl (by decide) rfl (fun ls hl => ?_)
    refine lv_iload hx hb dX1_sortOf_52 (lv_at hl 1 rfl) ?_
    obtain ⟨h9, h⟩ := chk_at h
    refine z_if_lt (tgt := 62) hx hb h9 dX1_sortOf_54 (by decide) (fun hq => ?_) (fun hq => ?_)
    · replace h := if_yes hq h
      refine lv_iconst (v := Int32.ofInt (1 : Int)) hx hb dX1_sortOf_62 (by decide) ?_
      obtain rfl := Option.some.inj h
      exact hr _ _ _ _ dX1_sortOf_63 hP hS
    · replace h := if_no hq h
      refine lv_iload hx hb dX1_sortOf_57 (lv_at hl 0 rfl) ?_
      obtain ⟨h10, h⟩ := chk_at h
      refine z_if_ge (tgt := 64) hx hb h10 dX1_sortOf_59 (by decide) (fun hq => ?_) (fun hq => ?_)
      · replace h := if_yes hq h
        refine lv_aload_n hx hb dX1_sortOf_64 rfl (lv_at hl 2 rfl) ?_
        refine gfWX_Edges_sharing hc hP q_70 dX1_sortOf_65 ?_
        refine lv_iload_n hx hb dX1_sortOf_68 rfl (lv_at hl 5 rfl) ?_
        refine azWX_Edges_sharing hc hP h1 dX1_sortOf_69 ?_
        refine lv_iconst (v := Int32.ofInt (2 : Int)) hx hb dX1_sortOf_70 (by decide) ?_
        obtain ⟨h11, h⟩ := chk_at h
        refine z_icmp_le (tgt := 76) hx hb h11 (by decide) dX1_sortOf_71 (by decide) (fun hq => ?_) (fun hq => ?_)
        · replace h := if_yes hq h
          refine lv_aload_n hx hb dX1_sortOf_76 rfl (lv_at hl 3 rfl) ?_
          refine lv_aload_n hx hb dX1_sortOf_77 rfl (lv_at hl 4 rfl) ?_
          refine lv_iload hx hb dX1_sortOf_78 (lv_at hl 1 rfl) ?_
          refine lv_iload hx hb dX1_sortOf_80 (lv_at hl 0 rfl) ?_
          obtain ⟨S12, x14, hk13, h⟩ := ob2_at h
          refine cl_Si (As := [.ref (a 1), .ref (a 2), .int (Int32.ofInt x5), .int (Int32.ofInt x8)]) (rest := []) hc k_X1_inOnePlane q_409 (c_X1_inOnePlane hk13) hP hS rfl hl (Nat.le_of_ble_eq_true rfl) dX1_sortOf_82 (Nat.le_of_ble_eq_true rfl) (Nat.le_of_ble_eq_true rfl) rfl (fun H locs hP hS => ?_)
          obtain ⟨h15, h⟩ := chk_at h
          refine z_if_eq (tgt := 90) hx hb h15 dX1_sortOf_85 (by decide) (fun hq => ?_) (fun hq => ?_)
          · replace h := if_yes hq h
            refine lv_aload_n hx hb dX1_sortOf_90 rfl (lv_at hl 4 rfl) ?_
            refine gfWX_Sight_swing hc hP q_403 dX1_sortOf_91 ?_
            refine lv_iload hx hb dX1_sortOf_94 (lv_at hl 1 rfl) ?_
            obtain ⟨h16, h⟩ := chk_at h
            refine azWX_Sight_swing hc hP h16 dX1_sortOf_96 ?_
            obtain ⟨h17, h⟩ := chk_at h
            refine z_if_le (tgt := 104) hx hb h17 dX1_sortOf_97 (by decide) (fun hq => ?_) (fun hq => ?_)
            · replace h := if_yes hq h
              refine lv_iconst (v := Int32.ofInt (0 : Int)) hx hb dX1_sortOf_104 (by decide) ?_
              exact t_X1_sortOf_p105 hc hr S12 x8 (0 : Int) h H locs ls hP hS (lv_sub hl [4, 0] rfl)
            · replace h := if_no hq h
              refine lv_iconst (v := Int32.ofInt (1 : Int)) hx hb dX1_sortOf_100 (by decide) ?_
              refine lv_goto (tgt := 105) hx hb dX1_sortOf_101 (by decide) ?_
              exact t_X1_sortOf_p105 hc hr S12 x8 (1 : Int) h H locs ls hP hS (lv_sub hl [4, 0] rfl)
          · replace h := if_no hq h
            refine lv_iconst (v := Int32.ofInt (2 : Int)) hx hb dX1_sortOf_88 (by decide) ?_
            obtain rfl := Option.some.inj h
            exact hr _ _ _ _ dX1_sortOf_89 hP hS
        · replace h := if_no hq h
          refine lv_iconst (v := Int32.ofInt (5 : Int)) hx hb dX1_sortOf_74 (by decide) ?_
          obtain rfl := Option.some.inj h
          exact hr _ _ _ _ dX1_sortOf_75 hP hS
      · replace h := if_no hq h
        refine lv_iconst (v := Int32.ofInt (1 : Int)) hx hb dX1_sortOf_62 (by decide) ?_
        obtain rfl := Option.some.inj h
        exact hr _ _ _ _ dX1_sortOf_63 hP hS
  · replace h := if_yes hq h
    refine lv_iconst (v := Int32.ofInt (0 : Int)) hx hb dX1_sortOf_9 (by decide) ?_
    obtain rfl := Option.some.inj h
    exact hr _ _ _ _ dX1_sortOf_10 hP hS
abbrev rm_X1_sortOf : Room := { frames := 3, cells := 0, slots := 0, locals := 70 }
theorem c_X1_sortOf {l : Launch} {D : va_G} {a : Nat → Nat} {g : Nat → ClassId} {S : SZ} {v3 : Int} {Z1 : SZ} {r1 : Int} (h : f_X1_sortOf S v3 = some (Z1, r1)) : MetI l D (tysWX g) (WX a g) E0 yX1_sortOf cX1_sortOf 6 (some .int) rm_X1_sortOf [.ref (a 3), .ref (a 1), .ref (a 2), .int (Int32.ofInt v3)] (em S) (em Z1, Int32.ofInt r1) := mk_i (WX_same a g) (by decide) (em Z1, Int32.ofInt r1) (Nat.le_of_ble_eq_true rfl) (fun p e s m args below meth c A Q hc hE hr => t_X1_sortOf (z := (Z1, r1)) hc hr S v3 h)
theorem k_X1_sortOf : CalV RX1 yX1_sortOf cX1_sortOf 6 (some .int) rm_X1_sortOf 3 := ⟨q_400, q_401, q_22, q_402, by decide +kernel, rfl, rfl⟩
set_option maxHeartbeats 4000000 in
set_option maxRecDepth 100000 in
theorem t_X1_rebuild_p101 {z : SZ} (hc : Cx p R s m args c D (tysWX g) A (WX a g) cX1_rebuild 5 RX1 4 95) (hr : Rtv p l e R s m args below meth c Q D A (WX a g) cX1_rebuild (em z)) {k88 : SZ → Int → Option (SZ)} (K88 : ∀ (S : SZ) (v3 : Int), k88 S v3 = some z → Go p l e R s m args below meth c Q D A (WX a g) 5 (em S) 88 [(0, .ref (a 3)), (1, .ref (a 1)), (2, .ref (a 2)), (3, .int (Int32.ofInt v3))] []) : ∀ (fu : Nat) (S : SZ) (v3 : Int) (v4 : Int), f_X1_rebuild_p101 k88 fu S v3 v4 = some z → Go p l e R s m args below meth c Q D A (WX a g) 5 (em S) 101 [(0, .ref (a 3)), (1, .ref (a 1)), (2, .ref (a 2)), (3, .int (Int32.ofInt v3)), (4, .int (Int32.ofInt v4))] [] := by
  obtain ⟨⟨hx, hb, hml, hown, hts⟩, -, -, -, hnf, hno⟩ := id hc
  intro fu
  induction fu with
  | zero =>
    intro S v3 v4 h
    rw [f_X1_rebuild_p101] at h
    cases h
  | succ fu ih =>
    intro S v3 v4 h H locs ls hP hS hl
    rw [f_X1_rebuild_p101] at h
    refine lv_iload hx hb dX1_rebuild_101 (lv_at hl 4 rfl) ?_
    refine lv_aload_n hx hb dX1_rebuild_103 rfl (lv_at hl 1 rfl) ?_
    refine gzWX_Mesh_points hc hP q_377 dX1_rebuild_104 ?_
    obtain ⟨h1, h⟩ := chk_at h
    obtain ⟨h2, h⟩ := chk_at h
    refine z_icmp_ge (tgt := 157) hx hb h1 h2 dX1_rebuild_107 (by decide) (fun hq => ?_) (fun hq => ?_)
    · replace h := if_yes hq h
      obtain ⟨x3, ex3⟩ : ∃ y : Int, y = v3 + (1 : Int) := ⟨_, rfl⟩
      replace h := olet_at ex3 h
      refine lv_iinc (v := Int32.ofInt x3) (lv' := [(3, .int (Int32.ofInt x3)), (0, .ref (a 3)), (1, .ref (a 1)), (2, .ref (a 2)), (4, .int (Int32.ofInt v4))]) hx hb dX1_rebuild_157 hl (k := 3) rfl (by rw [ex3, Int32.ofInt_add]) (by decide) rfl (fun ls hl => ?_)
      refine lv_goto (tgt := 88) hx hb dX1_rebuild_160 (by decide) ?_
      exact K88 S x3 h H locs ls hP hS (lv_sub hl [1, 2, 3, 0] rfl)
    · replace h := if_no hq h
      refine lv_aload_n hx hb dX1_rebuild_110 rfl (lv_at hl 0 rfl) ?_
      refine gzWX_Edges_count hc hP q_376 dX1_rebuild_111 ?_
      refine lv_bipush (v := Int32.ofInt (80 : Int)) hx hb dX1_rebuild_114 (by decide) ?_
      obtain ⟨h4, h⟩ := chk_at h
      refine z_icmp_ge (tgt := 151) hx hb h4 (by decide) dX1_rebuild_116 (by decide) (fun hq => ?_) (fun hq => ?_)
      · replace h := if_yes hq h
        obtain ⟨x5, ex5⟩ : ∃ y : Int, y = v4 + (1 : Int) := ⟨_, rfl⟩
        replace h := olet_at ex5 h
        refine lv_iinc (v := Int32.ofInt x5) (lv' := [(4, .int (Int32.ofInt x5)), (0, .ref (a 3)), (1, .ref (a 1)), (2, .ref (a 2)), (3, .int (Int32.ofInt v3))]) hx hb dX1_rebuild_151 hl (k := 4) rfl (by rw [ex5, Int32.ofInt_add]) (by decide) rfl (fun ls hl => ?_)
        refine lv_goto (tgt := 101) hx hb dX1_rebuild_154 (by decide) ?_
        exact ih S v3 x5 h H locs ls hP hS (lv_sub hl [1, 2, 3, 4, 0] rfl)
      · replace h := if_no hq h
        refine lv_aload_n hx hb dX1_rebuild_119 rfl (lv_at hl 0 rfl) ?_
        refine gfWX_Edges_shared hc hP q_67 dX1_rebuild_120 ?_
        refine lv_iload_n hx hb dX1_rebuild_123 rfl (lv_at hl 3 rfl) ?_
        refine lv_bipush (v := Int32.ofInt (16 : Int)) hx hb dX1_rebuild_124 (by decide) ?_
        refine z_imul hx hb dX1_rebuild_126 ?_
        refine lv_iload hx hb dX1_rebuild_127 (lv_at hl 4 rfl) ?_
        refine z_iadd hx hb dX1_rebuild_129 ?_
        obtain ⟨h6, h⟩ := chk_at h
        refine azWX_Edges_shared hc hP h6 dX1_rebuild_130 ?_
        obtain ⟨h7, h⟩ := chk_at h
        refine z_if_gt (tgt := 144) hx hb h7 dX1_rebuild_131 (by decide) (fun hq => ?_) (fun hq => ?_)
        · replace h := if_yes hq h
          refine lv_aload_n hx hb dX1_rebuild_144 rfl (lv_at hl 0 rfl) ?_
          refine lv_iload_n hx hb dX1_rebuild_145 rfl (lv_at hl 3 rfl) ?_
          refine lv_iload hx hb dX1_rebuild_146 (lv_at hl 4 rfl) ?_
          obtain ⟨S8, hk9, h⟩ := ob1_at h
          refine cl_Vv (As := [.int (Int32.ofInt v3), .int (Int32.ofInt v4)]) (rest := []) hc k_X1_append q_395 (c_X1_append hk9) hP hS (WX_3 a g (em S)) rfl rfl rfl hl (Nat.le_of_ble_eq_true rfl) dX1_rebuild_148 (Nat.le_of_ble_eq_true rfl) (Nat.le_of_ble_eq_true rfl) rfl (fun H locs hP hS => ?_)
          obtain ⟨x10, ex10⟩ : ∃ y : Int, y = v4 + (1 : Int) := ⟨_, rfl⟩
          replace h := olet_at ex10 h
          refine lv_iinc (v := Int32.ofInt x10) (lv' := [(4, .int (Int32.ofInt x10)), (0, .ref (a 3)), (1, .ref (a 1)), (2, .ref (a 2)), (3, .int (Int32.ofInt v3))]) hx hb dX1_rebuild_151 hl (k := 4) rfl (by rw [ex10, Int32.ofInt_add]) (by decide) rfl (fun ls hl => ?_)
          refine lv_goto (tgt := 101) hx hb dX1_rebuild_154 (by decide) ?_
          exact ih S8 v3 x10 h H locs ls hP hS (lv_sub hl [1, 2, 3, 4, 0] rfl)
        · replace h := if_no hq h
          refine lv_aload_n hx hb dX1_rebuild_134 rfl (lv_at hl 1 rfl) ?_
          refine lv_iload_n hx hb dX1_rebuild_135 rfl (lv_at hl 3 rfl) ?_
          refine lv_iload hx hb dX1_rebuild_136 (lv_at hl 4 rfl) ?_
          obtain ⟨S11, x13, hk12, h⟩ := ob2_at h
          refine cl_Vi (As := [.int (Int32.ofInt v3), .int (Int32.ofInt v4)]) (rest := []) hc k_X4_hasWire q_394 (c_X4_hasWire hk12) hP hS (WX_1 a g (em S)) rfl rfl rfl hl (Nat.le_of_ble_eq_true rfl) dX1_rebuild_138 (Nat.le_of_ble_eq_true rfl) (Nat.le_of_ble_eq_true rfl) rfl (fun H locs hP hS => ?_)
          obtain ⟨h14, h⟩ := chk_at h
          refine z_if_eq (tgt := 151) hx hb h14 dX1_rebuild_141 (by decide) (fun hq => ?_) (fun hq => ?_)
          · replace h := if_yes hq h
            obtain ⟨x15, ex15⟩ : ∃ y : Int, y = v4 + (1 : Int) := ⟨_, rfl⟩
            replace h := olet_at ex15 h
            refine lv_iinc (v := Int32.ofInt x15) (lv' := [(4, .int (Int32.ofInt x15)), (0, .ref (a 3)), (1, .ref (a 1)), (2, .ref (a 2)), (3, .int (Int32.ofInt v3))]) hx hb dX1_rebuild_151 hl (k := 4) rfl (by rw [ex15, Int32.ofInt_add]) (by decide) rfl (fun ls hl => ?_)
            refine lv_goto (tgt := 101) hx hb dX1_rebuild_154 (by decide) ?_
            exact ih S11 v3 x15 h H locs ls hP hS (lv_sub hl [1, 2, 3, 4, 0] rfl)
          · replace h := if_no hq h
            refine lv_aload_n hx hb dX1_rebuild_144 rfl (lv_at hl 0 rfl) ?_
            refine lv_iload_n hx hb dX1_rebuild_145 rfl (lv_at hl 3 rfl) ?_
            refine lv_iload hx hb dX1_rebuild_146 (lv_at hl 4 rfl) ?_
            obtain ⟨S16, hk17, h⟩ := ob1_at h
            refine cl_Vv (As := [.int (Int32.ofInt v3), .int (Int32.ofInt v4)]) (rest := []) hc k_X1_append q_395 (c_X1_append hk17) hP hS (WX_3 a g (em S11)) rfl rfl rfl hl (Nat.le_of_ble_eq_true rfl) dX1_rebuild_148 (Nat.le_of_ble_eq_true rfl) (Nat.le_of_ble_eq_true rfl) rfl (fun H locs hP hS => ?_)
            obtain ⟨x18, ex18⟩ : ∃ y : Int, y = v4 + (1 : Int) := ⟨_, rfl⟩
            replace h := olet_at ex18 h
            refine lv_iinc (v := Int32.ofInt x18) (lv' := [(4, .int (Int32.ofInt x18)), (0, .ref (a 3)), (1, .ref (a 1)), (2, .ref (a 2)), (3, .int (Int32.ofInt v3))]) hx hb dX1_rebuild_151 hl (k := 4) rfl (by rw [ex18, Int32.ofInt_add]) (by decide) rfl (fun ls hl => ?_)
            refine lv_goto (tgt := 101) hx hb dX1_rebuild_154 (by decide) ?_
            exact ih S16 v3 x18 h H locs ls hP hS (lv_sub hl [1, 2, 3, 4, 0] rfl)
set_option maxHeartbeats 4000000 in
set_option maxRecDepth 100000 in
theorem t_X1_rebuild_p165 {z : SZ} (hc : Cx p R s m args c D (tysWX g) A (WX a g) cX1_rebuild 5 RX1 4 95) (hr : Rtv p l e R s m args below meth c Q D A (WX a g) cX1_rebuild (em z)) : ∀ (fu : Nat) (S : SZ) (v3 : Int), f_X1_rebuild_p165 fu S v3 = some z → Go p l e R s m args below meth c Q D A (WX a g) 5 (em S) 165 [(0, .ref (a 3)), (1, .ref (a 1)), (2, .ref (a 2)), (3, .int (Int32.ofInt v3))] [] := by
  obtain ⟨⟨hx, hb, hml, hown, hts⟩, -, -, -, hnf, hno⟩ := id hc
  intro fu
  induction fu with
  | zero =>
    intro S v3 h
    rw [f_X1_rebuild_p165] at h
    cases h
  | succ fu ih =>
    intro S v3 h H locs ls hP hS hl
    rw [f_X1_rebuild_p165] at h
    refine lv_iload_n hx hb dX1_rebuild_165 rfl (lv_at hl 3 rfl) ?_
    refine lv_aload_n hx hb dX1_rebuild_166 rfl (lv_at hl 0 rfl) ?_
    refine gzWX_Edges_count hc hP q_376 dX1_rebuild_167 ?_
    obtain ⟨h1, h⟩ := chk_at h
    obtain ⟨h2, h⟩ := chk_at h
    refine z_icmp_ge (tgt := 192) hx hb h1 h2 dX1_rebuild_170 (by decide) (fun hq => ?_) (fun hq => ?_)
    · replace h := if_yes hq h
      obtain rfl := Option.some.inj h
      exact hr _ _ _ _ dX1_rebuild_192 hP hS
    · replace h := if_no hq h
      refine lv_aload_n hx hb dX1_rebuild_173 rfl (lv_at hl 0 rfl) ?_
      refine gfWX_Edges_sort hc hP q_71 dX1_rebuild_174 ?_
      refine lv_iload_n hx hb dX1_rebuild_177 rfl (lv_at hl 3 rfl) ?_
      refine lv_aload_n hx hb dX1_rebuild_178 rfl (lv_at hl 0 rfl) ?_
      refine lv_aload_n hx hb dX1_rebuild_179 rfl (lv_at hl 1 rfl) ?_
      refine lv_aload_n hx hb dX1_rebuild_180 rfl (lv_at hl 2 rfl) ?_
      refine lv_iload_n hx hb dX1_rebuild_181 rfl (lv_at hl 3 rfl) ?_
      obtain ⟨S3, x5, hk4, h⟩ := ob2_at h
      refine cl_Vi (As := [.ref (a 1), .ref (a 2), .int (Int32.ofInt v3)]) (rest := [.int (Int32.ofInt v3), .ref (a 24)]) hc k_X1_sortOf q_399 (c_X1_sortOf hk4) hP hS (WX_3 a g (em S)) rfl rfl rfl hl (Nat.le_of_ble_eq_true rfl) dX1_rebuild_182 (Nat.le_of_ble_eq_true rfl) (Nat.le_of_ble_eq_true rfl) rfl (fun H locs hP hS => ?_)
      obtain ⟨h6, h⟩ := chk_at h
      refine szWX_Edges_sort hc hP hS h6 dX1_rebuild_185 (fun H locs hP hS => ?_)
      obtain ⟨S7, eS7⟩ : ∃ z, z = ua S3 16 (v3).toNat x5 := ⟨_, rfl⟩
      replace h := olet_at eS7 h
      rw [← eS7] at hP
      obtain ⟨x8, ex8⟩ : ∃ y : Int, y = v3 + (1 : Int) := ⟨_, rfl⟩
      replace h := olet_at ex8 h
      refine lv_iinc (v := Int32.ofInt x8) (lv' := [(3, .int (Int32.ofInt x8)), (0, .ref (a 3)), (1, .ref (a 1)), (2, .ref (a 2))]) hx hb dX1_rebuild_186 hl (k := 3) rfl (by rw [ex8, Int32.ofInt_add]) (by decide) rfl (fun ls hl => ?_)
      refine lv_goto (tgt := 165) hx hb dX1_rebuild_189 (by decide) ?_
      exact ih S7 x8 h H locs ls hP hS (lv_sub hl [1, 2, 3, 0] rfl)
set_option maxHeartbeats 4000000 in
set_option maxRecDepth 100000 in
theorem t_X1_rebuild_p88 {z : SZ} (hc : Cx p R s m args c D (tysWX g) A (WX a g) cX1_rebuild 5 RX1 4 95) (hr : Rtv p l e R s m args below meth c Q D A (WX a g) cX1_rebuild (em z)) : ∀ (fu : Nat) (S : SZ) (v3 : Int), f_X1_rebuild_p88 fu S v3 = some z → Go p l e R s m args below meth c Q D A (WX a g) 5 (em S) 88 [(0, .ref (a 3)), (1, .ref (a 1)), (2, .ref (a 2)), (3, .int (Int32.ofInt v3))] [] := by
  obtain ⟨⟨hx, hb, hml, hown, hts⟩, -, -, -, hnf, hno⟩ := id hc
  intro fu
  induction fu with
  | zero =>
    intro S v3 h
    rw [f_X1_rebuild_p88] at h
    cases h
  | succ fu ih =>
    intro S v3 h H locs ls hP hS hl
    rw [f_X1_rebuild_p88] at h
    refine lv_iload_n hx hb dX1_rebuild_88 rfl (lv_at hl 3 rfl) ?_
    refine lv_aload_n hx hb dX1_rebuild_89 rfl (lv_at hl 1 rfl) ?_
    refine gzWX_Mesh_points hc hP q_377 dX1_rebuild_90 ?_
    obtain ⟨h1, h⟩ := chk_at h
    obtain ⟨h2, h⟩ := chk_at h
    refine z_icmp_ge (tgt := 163) hx hb h1 h2 dX1_rebuild_93 (by decide) (fun hq => ?_) (fun hq => ?_)
    · replace h := if_yes hq h
      refine lv_iconst (v := Int32.ofInt (0 : Int)) hx hb dX1_rebuild_163 (by decide) ?_
      refine lv_istore_n (lv' := [(3, .int (Int32.ofInt (0 : Int))), (0, .ref (a 3)), (1, .ref (a 1)), (2, .ref (a 2))]) hx hb dX1_rebuild_164 rfl hl (by decide) rfl (fun ls hl => ?_)
      exact t_X1_rebuild_p165 hc hr FU S (0 : Int) h H locs ls hP hS (lv_sub hl [1, 2, 3, 0] rfl)
    · replace h := if_no hq h
      refine lv_iload_n hx hb dX1_rebuild_96 rfl (lv_at hl 3 rfl) ?_
      refine lv_iconst (v := Int32.ofInt (1 : Int)) hx hb dX1_rebuild_97 (by decide) ?_
      refine z_iadd hx hb dX1_rebuild_98 ?_
      refine z_topi (fun x3 ex3 => ?_)
      replace h := olet_at ex3 h
      refine lv_istore (lv' := [(4, .int (Int32.ofInt x3)), (0, .ref (a 3)), (1, .ref (a 1)), (2, .ref (a 2)), (3, .int (Int32.ofInt v3))]) hx hb dX1_rebuild_99 hl (by decide) rfl (fun ls hl => ?_)
      exact t_X1_rebuild_p101 hc hr ih FU S v3 x3 h H locs ls hP hS (lv_sub hl [1, 2, 3, 4, 0] rfl)
set_option maxHeartbeats 4000000 in
set_option maxRecDepth 100000 in
theorem t_X1_rebuild_p19 {z : SZ} (hc : Cx p R s m args c D (tysWX g) A (WX a g) cX1_rebuild 5 RX1 4 95) (hr : Rtv p l e R s m args below meth c Q D A (WX a g) cX1_rebuild (em z)) : ∀ (fu : Nat) (S : SZ) (v3 : Int), f_X1_rebuild_p19 fu S v3 = some z → Go p l e R s m args below meth c Q D A (WX a g) 5 (em S) 19 [(0, .ref (a 3)), (1, .ref (a 1)), (2, .ref (a 2)), (3, .int (Int32.ofInt v3))] [] := by
  obtain ⟨⟨hx, hb, hml, hown, hts⟩, -, -, -, hnf, hno⟩ := id hc
  intro fu
  induction fu with
  | zero =>
    intro S v3 h
    rw [f_X1_rebuild_p19] at h
    cases h
  | succ fu ih =>
    intro S v3 h H locs ls hP hS hl
    rw [f_X1_rebuild_p19] at h
    refine lv_iload_n hx hb dX1_rebuild_19 rfl (lv_at hl 3 rfl) ?_
    refine lv_aload_n hx hb dX1_rebuild_20 rfl (lv_at hl 1 rfl) ?_
    refine gzWX_Mesh_faces hc hP q_375 dX1_rebuild_21 ?_
    obtain ⟨h1, h⟩ := chk_at h
    obtain ⟨h2, h⟩ := chk_at h
    refine z_icmp_ge (tgt := 81) hx hb h1 h2 dX1_rebuild_24 (by decide) (fun hq => ?_) (fun hq => ?_)
    · replace h := if_yes hq h
      refine lv_aload_n hx hb dX1_rebuild_81 rfl (lv_at hl 0 rfl) ?_
      refine lv_iconst (v := Int32.ofInt (0 : Int)) hx hb dX1_rebuild_82 (by decide) ?_
      refine pzWX_Edges_count hc hP hS q_376 dX1_rebuild_83 (fun H locs hP hS => ?_)
      obtain ⟨S3, eS3⟩ : ∃ z, z = ui S 9 (0 : Int) := ⟨_, rfl⟩
      replace h := olet_at eS3 h
      rw [← eS3] at hP
      refine lv_iconst (v := Int32.ofInt (0 : Int)) hx hb dX1_rebuild_86 (by decide) ?_
      refine lv_istore_n (lv' := [(3, .int (Int32.ofInt (0 : Int))), (0, .ref (a 3)), (1, .ref (a 1)), (2, .ref (a 2))]) hx hb dX1_rebuild_87 rfl hl (by decide) rfl (fun ls hl => ?_)
      exact t_X1_rebuild_p88 hc hr FU S3 (0 : Int) h H locs ls hP hS (lv_sub hl [1, 2, 3, 0] rfl)
    · replace h := if_no hq h
      refine lv_aload_n hx hb dX1_rebuild_27 rfl (lv_at hl 0 rfl) ?_
      refine lv_aload_n hx hb dX1_rebuild_28 rfl (lv_at hl 1 rfl) ?_
      refine lv_iload_n hx hb dX1_rebuild_29 rfl (lv_at hl 3 rfl) ?_
      refine lv_iconst (v := Int32.ofInt (0 : Int)) hx hb dX1_rebuild_30 (by decide) ?_
      obtain ⟨S4, x6, hk5, h⟩ := ob2_at h
      refine cl_Vi (As := [.int (Int32.ofInt v3), .int (Int32.ofInt (0 : Int))]) (rest := [.ref (a 3)]) hc k_X4_cornerOf q_382 (c_X4_cornerOf hk5) hP hS (WX_1 a g (em S)) rfl rfl rfl hl (Nat.le_of_ble_eq_true rfl) dX1_rebuild_31 (Nat.le_of_ble_eq_true rfl) (Nat.le_of_ble_eq_true rfl) rfl (fun H locs hP hS => ?_)
      refine lv_aload_n hx hb dX1_rebuild_34 rfl (lv_at hl 1 rfl) ?_
      refine lv_iload_n hx hb dX1_rebuild_35 rfl (lv_at hl 3 rfl) ?_
      refine lv_iconst (v := Int32.ofInt (1 : Int)) hx hb dX1_rebuild_36 (by decide) ?_
      obtain ⟨S7, x9, hk8, h⟩ := ob2_at h
      refine cl_Vi (As := [.int (Int32.ofInt v3), .int (Int32.ofInt (1 : Int))]) (rest := [.int (Int32.ofInt x6), .ref (a 3)]) hc k_X4_cornerOf q_382 (c_X4_cornerOf hk8) hP hS (WX_1 a g (em S4)) rfl rfl rfl hl (Nat.le_of_ble_eq_true rfl) dX1_rebuild_37 (Nat.le_of_ble_eq_true rfl) (Nat.le_of_ble_eq_true rfl) rfl (fun H locs hP hS => ?_)
      obtain ⟨S10, hk11, h⟩ := ob1_at h
      refine cl_Vv (As := [.int (Int32.ofInt x6), .int (Int32.ofInt x9)]) (rest := []) hc k_X1_share q_383 (c_X1_share hk11) hP hS (WX_3 a g (em S7)) rfl rfl rfl hl (Nat.le_of_ble_eq_true rfl) dX1_rebuild_40 (Nat.le_of_ble_eq_true rfl) (Nat.le_of_ble_eq_true rfl) rfl (fun H locs hP hS => ?_)
      refine lv_aload_n hx hb dX1_rebuild_43 rfl (lv_at hl 0 rfl) ?_
      refine lv_aload_n hx hb dX1_rebuild_44 rfl (lv_at hl 1 rfl) ?_
      refine lv_iload_n hx hb dX1_rebuild_45 rfl (lv_at hl 3 rfl) ?_
      refine lv_iconst (v := Int32.ofInt (1 : Int)) hx hb dX1_rebuild_46 (by decide) ?_
      obtain ⟨S12, x14, hk13, h⟩ := ob2_at h
      refine cl_Vi (As := [.int (Int32.ofInt v3), .int (Int32.ofInt (1 : Int))]) (rest := [.ref (a 3)]) hc k_X4_cornerOf q_382 (c_X4_cornerOf hk13) hP hS (WX_1 a g (em S10)) rfl rfl rfl hl (Nat.le_of_ble_eq_true rfl) dX1_rebuild_47 (Nat.le_of_ble_eq_true rfl) (Nat.le_of_ble_eq_true rfl) rfl (fun H locs hP hS => ?_)
      refine lv_aload_n hx hb dX1_rebuild_50 rfl (lv_at hl 1 rfl) ?_
      refine lv_iload_n hx hb dX1_rebuild_51 rfl (lv_at hl 3 rfl) ?_
      refine lv_iconst (v := Int32.ofInt (2 : Int)) hx hb dX1_rebuild_52 (by decide) ?_
      obtain ⟨S15, x17, hk16, h⟩ := ob2_at h
      refine cl_Vi (As := [.int (Int32.ofInt v3), .int (Int32.ofInt (2 : Int))]) (rest := [.int (Int32.ofInt x14), .ref (a 3)]) hc k_X4_cornerOf q_382 (c_X4_cornerOf hk16) hP hS (WX_1 a g (em S12)) rfl rfl rfl hl (Nat.le_of_ble_eq_true rfl) dX1_rebuild_53 (Nat.le_of_ble_eq_true rfl) (Nat.le_of_ble_eq_true rfl) rfl (fun H locs hP hS => ?_)
      obtain ⟨S18, hk19, h⟩ := ob1_at h
      refine cl_Vv (As := [.int (Int32.ofInt x14), .int (Int32.ofInt x17)]) (rest := []) hc k_X1_share q_383 (c_X1_share hk19) hP hS (WX_3 a g (em S15)) rfl rfl rfl hl (Nat.le_of_ble_eq_true rfl) dX1_rebuild_56 (Nat.le_of_ble_eq_true rfl) (Nat.le_of_ble_eq_true rfl) rfl (fun H locs hP hS => ?_)
      refine lv_aload_n hx hb dX1_rebuild_59 rfl (lv_at hl 0 rfl) ?_
      refine lv_aload_n hx hb dX1_rebuild_60 rfl (lv_at hl 1 rfl) ?_
      refine lv_iload_n hx hb dX1_rebuild_61 rfl (lv_at hl 3 rfl) ?_
      refine lv_iconst (v := Int32.ofInt (2 : Int)) hx hb dX1_rebuild_62 (by decide) ?_
      obtain ⟨S20, x22, hk21, h⟩ := ob2_at h
      refine cl_Vi (As := [.int (Int32.ofInt v3), .int (Int32.ofInt (2 : Int))]) (rest := [.ref (a 3)]) hc k_X4_cornerOf q_382 (c_X4_cornerOf hk21) hP hS (WX_1 a g (em S18)) rfl rfl rfl hl (Nat.le_of_ble_eq_true rfl) dX1_rebuild_63 (Nat.le_of_ble_eq_true rfl) (Nat.le_of_ble_eq_true rfl) rfl (fun H locs hP hS => ?_)
      refine lv_aload_n hx hb dX1_rebuild_66 rfl (lv_at hl 1 rfl) ?_
      refine lv_iload_n hx hb dX1_rebuild_67 rfl (lv_at hl 3 rfl) ?_
      refine lv_iconst (v := Int32.ofInt (0 : Int)) hx hb dX1_rebuild_68 (by decide) ?_
      obtain ⟨S23, x25, hk24, h⟩ := ob2_at h
      refine cl_Vi (As := [.int (Int32.ofInt v3), .int (Int32.ofInt (0 : Int))]) (rest := [.int (Int32.ofInt x22), .ref (a 3)]) hc k_X4_cornerOf q_382 (c_X4_cornerOf hk24) hP hS (WX_1 a g (em S20)) rfl rfl rfl hl (Nat.le_of_ble_eq_true rfl) dX1_rebuild_69 (Nat.le_of_ble_eq_true rfl) (Nat.le_of_ble_eq_true rfl) rfl (fun H locs hP hS => ?_)
      obtain ⟨S26, hk27, h⟩ := ob1_at h
      refine cl_Vv (As := [.int (Int32.ofInt x22), .int (Int32.ofInt x25)]) (rest := []) hc k_X1_share q_383 (c_X1_share hk27) hP hS (WX_3 a g (em S23)) rfl rfl rfl hl (Nat.le_of_ble_eq_true rfl) dX1_rebuild_72 (Nat.le_of_ble_eq_true rfl) (Nat.le_of_ble_eq_true rfl) rfl (fun H locs hP hS => ?_)
      obtain ⟨x28, ex28⟩ : ∃ y : Int, y = v3 + (1 : Int) := ⟨_, rfl⟩
      replace h := olet_at ex28 h
      refine lv_iinc (v := Int32.ofInt x28) (lv' := [(3, .int (Int32.ofInt x28)), (0, .ref (a 3)), (1, .ref (a 1)), (2, .ref (a 2))]) hx hb dX1_rebuild_75 hl (k := 3) rfl (by rw [ex28, Int32.ofInt_add]) (by decide) rfl (fun ls hl => ?_)
      refine lv_goto (tgt := 19) hx hb dX1_rebuild_78 (by decide) ?_
      exact ih S26 x28 h H locs ls hP hS (lv_sub hl [1, 2, 3, 0] rfl)
set_option maxHeartbeats 4000000 in
set_option maxRecDepth 100000 in
theorem t_X1_rebuild {z : SZ} (hc : Cx p R s m args c D (tysWX g) A (WX a g) cX1_rebuild 5 RX1 4 95) (hr : Rtv p l e R s m args below meth c Q D A (WX a g) cX1_rebuild (em z)) : ∀ (S : SZ), f_X1_rebuild S = some z → Go p l e R s m args below meth c Q D A (WX a g) 5 (em S) 0 [(0, .ref (a 3)), (1, .ref (a 1)), (2, .ref (a 2))] [] := by
  obtain ⟨⟨hx, hb, hml, hown, hts⟩, -, -, -, hnf, hno⟩ := id hc
  intro S h H locs ls hP hS hl
  rw [f_X1_rebuild] at h
  replace hl : lv_has ls 5 [(0, .ref (a 3)), (1, .ref (a 1)), (2, .ref (a 2))] := hl
  refine lv_aload_n hx hb dX1_rebuild_0 rfl (lv_at hl 0 rfl) ?_
  refine gfWX_Edges_number hc hP q_66 dX1_rebuild_1 ?_
  refine lv_bipush (v := Int32.ofInt (-9 : Int)) hx hb dX1_rebuild_4 (by decide) ?_
  obtain ⟨S1, hk2, h⟩ := ob1_at h
  refine cl_Sv (As := [.ref (a 19), .int (Int32.ofInt (-9 : Int))]) (rest := []) hc k_J7_fill_number q_378 (c_J7_fill_number hk2) hP hS rfl hl (Nat.le_of_ble_eq_true rfl) dX1_rebuild_6 (Nat.le_of_ble_eq_true rfl) (Nat.le_of_ble_eq_true rfl) rfl (fun H locs hP hS => ?_)
  refine lv_aload_n hx hb dX1_rebuild_9 rfl (lv_at hl 0 rfl) ?_
  refine gfWX_Edges_shared hc hP q_67 dX1_rebuild_10 ?_
  refine lv_iconst (v := Int32.ofInt (0 : Int)) hx hb dX1_rebuild_13 (by decide) ?_
  obtain ⟨S3, hk4, h⟩ := ob1_at h
  refine cl_Sv (As := [.ref (a 20), .int (Int32.ofInt (0 : Int))]) (rest := []) hc k_J7_fill_shared q_378 (c_J7_fill_shared hk4) hP hS rfl hl (Nat.le_of_ble_eq_true rfl) dX1_rebuild_14 (Nat.le_of_ble_eq_true rfl) (Nat.le_of_ble_eq_true rfl) rfl (fun H locs hP hS => ?_)
  refine lv_iconst (v := Int32.ofInt (0 : Int)) hx hb dX1_rebuild_17 (by decide) ?_
  refine lv_istore_n (lv' := [(3, .int (Int32.ofInt (0 : Int))), (0, .ref (a 3)), (1, .ref (a 1)), (2, .ref (a 2))]) hx hb dX1_rebuild_18 rfl hl (by decide) rfl (fun ls hl => ?_)
  exact t_X1_rebuild_p19 hc hr FU S3 (0 : Int) h H locs ls hP hS (lv_sub hl [1, 2, 3, 0] rfl)
abbrev rm_X1_rebuild : Room := { frames := 4, cells := 0, slots := 0, locals := 95 }
theorem c_X1_rebuild {l : Launch} {D : va_G} {a : Nat → Nat} {g : Nat → ClassId} {S : SZ} {z : SZ} (h : f_X1_rebuild S = some z) : MetV l D (tysWX g) (WX a g) E0 yX1_rebuild cX1_rebuild 5 none rm_X1_rebuild [.ref (a 3), .ref (a 1), .ref (a 2)] (em S) (em z) := mk_v (WX_same a g) (by decide) (em z) (Nat.le_of_ble_eq_true rfl) (fun p e s m args below meth c A Q hc hE hr => t_X1_rebuild (z := z) hc hr S h)
theorem k_X1_rebuild : CalV RX1 yX1_rebuild cX1_rebuild 5 none rm_X1_rebuild 2 := ⟨q_372, q_373, q_22, q_374, by decide +kernel, rfl, rfl⟩
set_option maxHeartbeats 4000000 in
set_option maxRecDepth 100000 in
theorem t_X1_countAt_p4 {z : SZ × Int} (hc : Cx p R s m args c D (tysWX g) A (WX a g) cX1_countAt 4 RX1 0 0) (hr : Rti p l e R s m args below meth c Q D A (WX a g) cX1_countAt (em z.1, Int32.ofInt z.2)) : ∀ (fu : Nat) (S : SZ) (v1 : Int) (v2 : Int) (v3 : Int), f_X1_countAt_p4 fu S v1 v2 v3 = some z → Go p l e R s m args below meth c Q D A (WX a g) 4 (em S) 4 [(0, .ref (a 3)), (1, .int (Int32.ofInt v1)), (2, .int (Int32.ofInt v2)), (3, .int (Int32.ofInt v3))] [] := by
  obtain ⟨⟨hx, hb, hml, hown, hts⟩, -, -, -, hnf, hno⟩ := id hc
  intro fu
  induction fu with
  | zero =>
    intro S v1 v2 v3 h
    rw [f_X1_countAt_p4] at h
    cases h
  | succ fu ih =>
    intro S v1 v2 v3 h H locs ls hP hS hl
    rw [f_X1_countAt_p4] at h
    refine lv_iload_n hx hb dX1_countAt_4 rfl (lv_at hl 3 rfl) ?_
    refine lv_aload_n hx hb dX1_countAt_5 rfl (lv_at hl 0 rfl) ?_
    refine gzWX_Edges_count hc hP q_376 dX1_countAt_6 ?_
    obtain ⟨h1, h⟩ := chk_at h
    obtain ⟨h2, h⟩ := chk_at h
    refine z_icmp_ge (tgt := 41) hx hb h1 h2 dX1_countAt_9 (by decide) (fun hq => ?_) (fun hq => ?_)
    · replace h := if_yes hq h
      refine lv_iload_n hx hb dX1_countAt_41 rfl (lv_at hl 2 rfl) ?_
      obtain rfl := Option.some.inj h
      exact hr _ _ _ _ dX1_countAt_42 hP hS
    · replace h := if_no hq h
      refine lv_aload_n hx hb dX1_countAt_12 rfl (lv_at hl 0 rfl) ?_
      refine gfWX_Edges_low hc hP q_68 dX1_countAt_13 ?_
      refine lv_iload_n hx hb dX1_countAt_16 rfl (lv_at hl 3 rfl) ?_
      obtain ⟨h3, h⟩ := chk_at h
      refine azWX_Edges_low hc hP h3 dX1_countAt_17 ?_
      refine lv_iload_n hx hb dX1_countAt_18 rfl (lv_at hl 1 rfl) ?_
      obtain ⟨h4, h⟩ := chk_at h
      obtain ⟨h5, h⟩ := chk_at h
      refine z_icmp_eq (tgt := 32) hx hb h4 h5 dX1_countAt_19 (by decide) (fun hq => ?_) (fun hq => ?_)
      · replace h := if_yes hq h
        obtain ⟨x6, ex6⟩ : ∃ y : Int, y = v2 + (1 : Int) := ⟨_, rfl⟩
        replace h := olet_at ex6 h
        refine lv_iinc (v := Int32.ofInt x6) (lv' := [(2, .int (Int32.ofInt x6)), (0, .ref (a 3)), (1, .int (Int32.ofInt v1)), (3, .int (Int32.ofInt v3))]) hx hb dX1_countAt_32 hl (k := 2) rfl (by rw [ex6, Int32.ofInt_add]) (by decide) rfl (fun ls hl => ?_)
        obtain ⟨x7, ex7⟩ : ∃ y : Int, y = v3 + (1 : Int) := ⟨_, rfl⟩
        replace h := olet_at ex7 h
        refine lv_iinc (v := Int32.ofInt x7) (lv' := [(3, .int (Int32.ofInt x7)), (2, .int (Int32.ofInt x6)), (0, .ref (a 3)), (1, .int (Int32.ofInt v1))]) hx hb dX1_countAt_35 hl (k := 3) rfl (by rw [ex7, Int32.ofInt_add]) (by decide) rfl (fun ls hl => ?_)
        refine lv_goto (tgt := 4) hx hb dX1_countAt_38 (by decide) ?_
        exact ih S v1 x6 x7 h H locs ls hP hS (lv_sub hl [2, 3, 1, 0] rfl)
      · replace h := if_no hq h
        refine lv_aload_n hx hb dX1_countAt_22 rfl (lv_at hl 0 rfl) ?_
        refine gfWX_Edges_high hc hP q_69 dX1_countAt_23 ?_
        refine lv_iload_n hx hb dX1_countAt_26 rfl (lv_at hl 3 rfl) ?_
        refine azWX_Edges_high hc hP h3 dX1_countAt_27 ?_
        refine lv_iload_n hx hb dX1_countAt_28 rfl (lv_at hl 1 rfl) ?_
        obtain ⟨h8, h⟩ := chk_at h
        refine z_icmp_ne (tgt := 35) hx hb h8 h5 dX1_countAt_29 (by decide) (fun hq => ?_) (fun hq => ?_)
        · replace h := if_no hq h
          obtain ⟨x9, ex9⟩ : ∃ y : Int, y = v3 + (1 : Int) := ⟨_, rfl⟩
          replace h := olet_at ex9 h
          refine lv_iinc (v := Int32.ofInt x9) (lv' := [(3, .int (Int32.ofInt x9)), (0, .ref (a 3)), (1, .int (Int32.ofInt v1)), (2, .int (Int32.ofInt v2))]) hx hb dX1_countAt_35 hl (k := 3) rfl (by rw [ex9, Int32.ofInt_add]) (by decide) rfl (fun ls hl => ?_)
          refine lv_goto (tgt := 4) hx hb dX1_countAt_38 (by decide) ?_
          exact ih S v1 v2 x9 h H locs ls hP hS (lv_sub hl [1, 2, 3, 0] rfl)
        · replace h := if_yes hq h
          obtain ⟨x10, ex10⟩ : ∃ y : Int, y = v2 + (1 : Int) := ⟨_, rfl⟩
          replace h := olet_at ex10 h
          refine lv_iinc (v := Int32.ofInt x10) (lv' := [(2, .int (Int32.ofInt x10)), (0, .ref (a 3)), (1, .int (Int32.ofInt v1)), (3, .int (Int32.ofInt v3))]) hx hb dX1_countAt_32 hl (k := 2) rfl (by rw [ex10, Int32.ofInt_add]) (by decide) rfl (fun ls hl => ?_)
          obtain ⟨x11, ex11⟩ : ∃ y : Int, y = v3 + (1 : Int) := ⟨_, rfl⟩
          replace h := olet_at ex11 h
          refine lv_iinc (v := Int32.ofInt x11) (lv' := [(3, .int (Int32.ofInt x11)), (2, .int (Int32.ofInt x10)), (0, .ref (a 3)), (1, .int (Int32.ofInt v1))]) hx hb dX1_countAt_35 hl (k := 3) rfl (by rw [ex11, Int32.ofInt_add]) (by decide) rfl (fun ls hl => ?_)
          refine lv_goto (tgt := 4) hx hb dX1_countAt_38 (by decide) ?_
          exact ih S v1 x10 x11 h H locs ls hP hS (lv_sub hl [2, 3, 1, 0] rfl)
set_option maxHeartbeats 4000000 in
set_option maxRecDepth 100000 in
theorem t_X1_countAt {z : SZ × Int} (hc : Cx p R s m args c D (tysWX g) A (WX a g) cX1_countAt 4 RX1 0 0) (hr : Rti p l e R s m args below meth c Q D A (WX a g) cX1_countAt (em z.1, Int32.ofInt z.2)) : ∀ (S : SZ) (v1 : Int), f_X1_countAt S v1 = some z → Go p l e R s m args below meth c Q D A (WX a g) 4 (em S) 0 [(0, .ref (a 3)), (1, .int (Int32.ofInt v1))] [] := by
  obtain ⟨⟨hx, hb, hml, hown, hts⟩, -, -, -, hnf, hno⟩ := id hc
  intro S v1 h H locs ls hP hS hl
  rw [f_X1_countAt] at h
  replace hl : lv_has ls 4 [(0, .ref (a 3)), (1, .int (Int32.ofInt v1))] := hl
  refine lv_iconst (v := Int32.ofInt (0 : Int)) hx hb dX1_countAt_0 (by decide) ?_
  refine lv_istore_n (lv' := [(2, .int (Int32.ofInt (0 : Int))), (0, .ref (a 3)), (1, .int (Int32.ofInt v1))]) hx hb dX1_countAt_1 rfl hl (by decide) rfl (fun ls hl => ?_)
  refine lv_iconst (v := Int32.ofInt (0 : Int)) hx hb dX1_countAt_2 (by decide) ?_
  refine lv_istore_n (lv' := [(3, .int (Int32.ofInt (0 : Int))), (2, .int (Int32.ofInt (0 : Int))), (0, .ref (a 3)), (1, .int (Int32.ofInt v1))]) hx hb dX1_countAt_3 rfl hl (by decide) rfl (fun ls hl => ?_)
  exact t_X1_countAt_p4 hc hr FU S v1 (0 : Int) (0 : Int) h H locs ls hP hS (lv_sub hl [2, 3, 1, 0] rfl)
abbrev rm_X1_countAt : Room := { frames := 0, cells := 0, slots := 0, locals := 0 }
theorem c_X1_countAt {l : Launch} {D : va_G} {a : Nat → Nat} {g : Nat → ClassId} {S : SZ} {v1 : Int} {Z1 : SZ} {r1 : Int} (h : f_X1_countAt S v1 = some (Z1, r1)) : MetI l D (tysWX g) (WX a g) E0 yX1_countAt cX1_countAt 4 (some .int) rm_X1_countAt [.ref (a 3), .int (Int32.ofInt v1)] (em S) (em Z1, Int32.ofInt r1) := mk_i (WX_same a g) (by decide) (em Z1, Int32.ofInt r1) (Nat.le_of_ble_eq_true rfl) (fun p e s m args below meth c A Q hc hE hr => t_X1_countAt (z := (Z1, r1)) hc hr S v1 h)
theorem k_X1_countAt : CalV RX1 yX1_countAt cX1_countAt 4 (some .int) rm_X1_countAt 1 := ⟨q_532, q_533, q_22, q_534, by decide +kernel, rfl, rfl⟩
set_option maxHeartbeats 4000000 in
set_option maxRecDepth 100000 in
theorem t_X1_has {z : SZ × Int} (hc : Cx p R s m args c D (tysWX g) A (WX a g) cX1_has 2 RX1 0 0) (hr : Rtz p l e R s m args below meth c Q D A (WX a g) cX1_has (em z.1, Int32.ofInt z.2)) : ∀ (S : SZ) (v1 : Int), f_X1_has S v1 = some z → Go p l e R s m args below meth c Q D A (WX a g) 2 (em S) 0 [(0, .ref (a 3)), (1, .int (Int32.ofInt v1))] [] := by
  obtain ⟨⟨hx, hb, hml, hown, hts⟩, -, -, -, hnf, hno⟩ := id hc
  intro S v1 h H locs ls hP hS hl
  rw [f_X1_has] at h
  replace hl : lv_has ls 2 [(0, .ref (a 3)), (1, .int (Int32.ofInt v1))] := hl
  refine lv_iload_n hx hb dX1_has_0 rfl (lv_at hl 1 rfl) ?_
  obtain ⟨h1, h⟩ := chk_at h
  refine z_if_lt (tgt := 16) hx hb h1 dX1_has_1 (by decide) (fun hq => ?_) (fun hq => ?_)
  · replace h := if_yes hq h
    refine lv_iconst (v := Int32.ofInt (0 : Int)) hx hb dX1_has_16 (by decide) ?_
    obtain rfl := Option.some.inj h
    exact hr (bit_of (Or.inl rfl)) _ _ _ _ dX1_has_17 hP hS
  · replace h := if_no hq h
    refine lv_iload_n hx hb dX1_has_4 rfl (lv_at hl 1 rfl) ?_
    refine lv_aload_n hx hb dX1_has_5 rfl (lv_at hl 0 rfl) ?_
    refine gzWX_Edges_count hc hP q_376 dX1_has_6 ?_
    obtain ⟨h2, h⟩ := chk_at h
    refine z_icmp_ge (tgt := 16) hx hb h1 h2 dX1_has_9 (by decide) (fun hq => ?_) (fun hq => ?_)
    · replace h := if_yes hq h
      refine lv_iconst (v := Int32.ofInt (0 : Int)) hx hb dX1_has_16 (by decide) ?_
      obtain rfl := Option.some.inj h
      exact hr (bit_of (Or.inl rfl)) _ _ _ _ dX1_has_17 hP hS
    · replace h := if_no hq h
      refine lv_iconst (v := Int32.ofInt (1 : Int)) hx hb dX1_has_12 (by decide) ?_
      refine lv_goto (tgt := 17) hx hb dX1_has_13 (by decide) ?_
      obtain rfl := Option.some.inj h
      exact hr (bit_of (Or.inr rfl)) _ _ _ _ dX1_has_17 hP hS
abbrev rm_X1_has : Room := { frames := 0, cells := 0, slots := 0, locals := 0 }
theorem c_X1_has {l : Launch} {D : va_G} {a : Nat → Nat} {g : Nat → ClassId} {S : SZ} {v1 : Int} {Z1 : SZ} {r1 : Int} (h : f_X1_has S v1 = some (Z1, r1)) : MetI l D (tysWX g) (WX a g) E0 yX1_has cX1_has 2 (some .boolean) rm_X1_has [.ref (a 3), .int (Int32.ofInt v1)] (em S) (em Z1, Int32.ofInt r1) := mk_z (WX_same a g) (by decide) (em Z1, Int32.ofInt r1) (Nat.le_of_ble_eq_true rfl) (fun p e s m args below meth c A Q hc hE hr => t_X1_has (z := (Z1, r1)) hc hr S v1 h)
theorem k_X1_has : CalV RX1 yX1_has cX1_has 2 (some .boolean) rm_X1_has 1 := ⟨q_659, q_660, q_22, q_661, by decide +kernel, rfl, rfl⟩
set_option maxHeartbeats 4000000 in
set_option maxRecDepth 100000 in
theorem t_X1_between {z : SZ × Int} (hc : Cx p R s m args c D (tysWX g) A (WX a g) cX1_between 3 RX1 0 0) (hr : Rti p l e R s m args below meth c Q D A (WX a g) cX1_between (em z.1, Int32.ofInt z.2)) : ∀ (S : SZ) (v1 : Int) (v2 : Int), f_X1_between S v1 v2 = some z → Go p l e R s m args below meth c Q D A (WX a g) 3 (em S) 0 [(0, .ref (a 3)), (1, .int (Int32.ofInt v1)), (2, .int (Int32.ofInt v2))] [] := by
  obtain ⟨⟨hx, hb, hml, hown, hts⟩, -, -, -, hnf, hno⟩ := id hc
  intro S v1 v2 h H locs ls hP hS hl
  rw [f_X1_between] at h
  replace hl : lv_has ls 3 [(0, .ref (a 3)), (1, .int (Int32.ofInt v1)), (2, .int (Int32.ofInt v2))] := hl
  refine lv_aload_n hx hb dX1_between_0 rfl (lv_at hl 0 rfl) ?_
  refine gfWX_Edges_number hc hP q_66 dX1_between_1 ?_
  refine lv_iload_n hx hb dX1_between_4 rfl (lv_at hl 1 rfl) ?_
  refine lv_bipush (v := Int32.ofInt (16 : Int)) hx hb dX1_between_5 (by decide) ?_
  refine z_imul hx hb dX1_between_7 ?_
  refine lv_iload_n hx hb dX1_between_8 rfl (lv_at hl 2 rfl) ?_
  refine z_iadd hx hb dX1_between_9 ?_
  obtain ⟨h1, h⟩ := chk_at h
  refine azWX_Edges_number hc hP h1 dX1_between_10 ?_
  obtain rfl := Option.some.inj h
  exact hr _ _ _ _ dX1_between_11 hP hS
abbrev rm_X1_between : Room := { frames := 0, cells := 0, slots := 0, locals := 0 }
theorem c_X1_between {l : Launch} {D : va_G} {a : Nat → Nat} {g : Nat → ClassId} {S : SZ} {v1 : Int} {v2 : Int} {Z1 : SZ} {r1 : Int} (h : f_X1_between S v1 v2 = some (Z1, r1)) : MetI l D (tysWX g) (WX a g) E0 yX1_between cX1_between 3 (some .int) rm_X1_between [.ref (a 3), .int (Int32.ofInt v1), .int (Int32.ofInt v2)] (em S) (em Z1, Int32.ofInt r1) := mk_i (WX_same a g) (by decide) (em Z1, Int32.ofInt r1) (Nat.le_of_ble_eq_true rfl) (fun p e s m args below meth c A Q hc hE hr => t_X1_between (z := (Z1, r1)) hc hr S v1 v2 h)
theorem k_X1_between : CalV RX1 yX1_between cX1_between 3 (some .int) rm_X1_between 2 := ⟨q_682, q_683, q_22, q_684, by decide +kernel, rfl, rfl⟩
set_option maxHeartbeats 4000000 in
set_option maxRecDepth 100000 in
theorem t_X1_countSort_p4 {z : SZ × Int} (hc : Cx p R s m args c D (tysWX g) A (WX a g) cX1_countSort 4 RX1 0 0) (hr : Rti p l e R s m args below meth c Q D A (WX a g) cX1_countSort (em z.1, Int32.ofInt z.2)) : ∀ (fu : Nat) (S : SZ) (v1 : Int) (v2 : Int) (v3 : Int), f_X1_countSort_p4 fu S v1 v2 v3 = some z → Go p l e R s m args below meth c Q D A (WX a g) 4 (em S) 4 [(0, .ref (a 3)), (1, .int (Int32.ofInt v1)), (2, .int (Int32.ofInt v2)), (3, .int (Int32.ofInt v3))] [] := by
  obtain ⟨⟨hx, hb, hml, hown, hts⟩, -, -, -, hnf, hno⟩ := id hc
  intro fu
  induction fu with
  | zero =>
    intro S v1 v2 v3 h
    rw [f_X1_countSort_p4] at h
    cases h
  | succ fu ih =>
    intro S v1 v2 v3 h H locs ls hP hS hl
    rw [f_X1_countSort_p4] at h
    refine lv_iload_n hx hb dX1_countSort_4 rfl (lv_at hl 3 rfl) ?_
    refine lv_aload_n hx hb dX1_countSort_5 rfl (lv_at hl 0 rfl) ?_
    refine gzWX_Edges_count hc hP q_376 dX1_countSort_6 ?_
    obtain ⟨h1, h⟩ := chk_at h
    obtain ⟨h2, h⟩ := chk_at h
    refine z_icmp_ge (tgt := 31) hx hb h1 h2 dX1_countSort_9 (by decide) (fun hq => ?_) (fun hq => ?_)
    · replace h := if_yes hq h
      refine lv_iload_n hx hb dX1_countSort_31 rfl (lv_at hl 2 rfl) ?_
      obtain rfl := Option.some.inj h
      exact hr _ _ _ _ dX1_countSort_32 hP hS
    · replace h := if_no hq h
      refine lv_aload_n hx hb dX1_countSort_12 rfl (lv_at hl 0 rfl) ?_
      refine gfWX_Edges_sort hc hP q_71 dX1_countSort_13 ?_
      refine lv_iload_n hx hb dX1_countSort_16 rfl (lv_at hl 3 rfl) ?_
      obtain ⟨h3, h⟩ := chk_at h
      refine azWX_Edges_sort hc hP h3 dX1_countSort_17 ?_
      refine lv_iload_n hx hb dX1_countSort_18 rfl (lv_at hl 1 rfl) ?_
      obtain ⟨h4, h⟩ := chk_at h
      obtain ⟨h5, h⟩ := chk_at h
      refine z_icmp_ne (tgt := 25) hx hb h4 h5 dX1_countSort_19 (by decide) (fun hq => ?_) (fun hq => ?_)
      · replace h := if_no hq h
        obtain ⟨x6, ex6⟩ : ∃ y : Int, y = v3 + (1 : Int) := ⟨_, rfl⟩
        replace h := olet_at ex6 h
        refine lv_iinc (v := Int32.ofInt x6) (lv' := [(3, .int (Int32.ofInt x6)), (0, .ref (a 3)), (1, .int (Int32.ofInt v1)), (2, .int (Int32.ofInt v2))]) hx hb dX1_countSort_25 hl (k := 3) rfl (by rw [ex6, Int32.ofInt_add]) (by decide) rfl (fun ls hl => ?_)
        refine lv_goto (tgt := 4) hx hb dX1_countSort_28 (by decide) ?_
        exact ih S v1 v2 x6 h H locs ls hP hS (lv_sub hl [1, 2, 3, 0] rfl)
      · replace h := if_yes hq h
        obtain ⟨x7, ex7⟩ : ∃ y : Int, y = v2 + (1 : Int) := ⟨_, rfl⟩
        replace h := olet_at ex7 h
        refine lv_iinc (v := Int32.ofInt x7) (lv' := [(2, .int (Int32.ofInt x7)), (0, .ref (a 3)), (1, .int (Int32.ofInt v1)), (3, .int (Int32.ofInt v3))]) hx hb dX1_countSort_22 hl (k := 2) rfl (by rw [ex7, Int32.ofInt_add]) (by decide) rfl (fun ls hl => ?_)
        obtain ⟨x8, ex8⟩ : ∃ y : Int, y = v3 + (1 : Int) := ⟨_, rfl⟩
        replace h := olet_at ex8 h
        refine lv_iinc (v := Int32.ofInt x8) (lv' := [(3, .int (Int32.ofInt x8)), (2, .int (Int32.ofInt x7)), (0, .ref (a 3)), (1, .int (Int32.ofInt v1))]) hx hb dX1_countSort_25 hl (k := 3) rfl (by rw [ex8, Int32.ofInt_add]) (by decide) rfl (fun ls hl => ?_)
        refine lv_goto (tgt := 4) hx hb dX1_countSort_28 (by decide) ?_
        exact ih S v1 x7 x8 h H locs ls hP hS (lv_sub hl [2, 3, 1, 0] rfl)
set_option maxHeartbeats 4000000 in
set_option maxRecDepth 100000 in
theorem t_X1_countSort {z : SZ × Int} (hc : Cx p R s m args c D (tysWX g) A (WX a g) cX1_countSort 4 RX1 0 0) (hr : Rti p l e R s m args below meth c Q D A (WX a g) cX1_countSort (em z.1, Int32.ofInt z.2)) : ∀ (S : SZ) (v1 : Int), f_X1_countSort S v1 = some z → Go p l e R s m args below meth c Q D A (WX a g) 4 (em S) 0 [(0, .ref (a 3)), (1, .int (Int32.ofInt v1))] [] := by
  obtain ⟨⟨hx, hb, hml, hown, hts⟩, -, -, -, hnf, hno⟩ := id hc
  intro S v1 h H locs ls hP hS hl
  rw [f_X1_countSort] at h
  replace hl : lv_has ls 4 [(0, .ref (a 3)), (1, .int (Int32.ofInt v1))] := hl
  refine lv_iconst (v := Int32.ofInt (0 : Int)) hx hb dX1_countSort_0 (by decide) ?_
  refine lv_istore_n (lv' := [(2, .int (Int32.ofInt (0 : Int))), (0, .ref (a 3)), (1, .int (Int32.ofInt v1))]) hx hb dX1_countSort_1 rfl hl (by decide) rfl (fun ls hl => ?_)
  refine lv_iconst (v := Int32.ofInt (0 : Int)) hx hb dX1_countSort_2 (by decide) ?_
  refine lv_istore_n (lv' := [(3, .int (Int32.ofInt (0 : Int))), (2, .int (Int32.ofInt (0 : Int))), (0, .ref (a 3)), (1, .int (Int32.ofInt v1))]) hx hb dX1_countSort_3 rfl hl (by decide) rfl (fun ls hl => ?_)
  exact t_X1_countSort_p4 hc hr FU S v1 (0 : Int) (0 : Int) h H locs ls hP hS (lv_sub hl [2, 3, 1, 0] rfl)
abbrev rm_X1_countSort : Room := { frames := 0, cells := 0, slots := 0, locals := 0 }
theorem c_X1_countSort {l : Launch} {D : va_G} {a : Nat → Nat} {g : Nat → ClassId} {S : SZ} {v1 : Int} {Z1 : SZ} {r1 : Int} (h : f_X1_countSort S v1 = some (Z1, r1)) : MetI l D (tysWX g) (WX a g) E0 yX1_countSort cX1_countSort 4 (some .int) rm_X1_countSort [.ref (a 3), .int (Int32.ofInt v1)] (em S) (em Z1, Int32.ofInt r1) := mk_i (WX_same a g) (by decide) (em Z1, Int32.ofInt r1) (Nat.le_of_ble_eq_true rfl) (fun p e s m args below meth c A Q hc hE hr => t_X1_countSort (z := (Z1, r1)) hc hr S v1 h)
theorem k_X1_countSort : CalV RX1 yX1_countSort cX1_countSort 4 (some .int) rm_X1_countSort 1 := ⟨q_821, q_822, q_22, q_823, by decide +kernel, rfl, rfl⟩
end W
