section W
variable {p : Program} {l : Launch} {e : Env} {R : Room} {s : State} {m : MethodId} {args : Array Value} {below : List Frame} {meth : Method} {c : Code} {Q : State → Prop} {D : va_G} {A : Nat → Prop} {a : Nat → Nat} {g : Nat → ClassId}
set_option maxHeartbeats 4000000 in
set_option maxRecDepth 100000 in
theorem t_X1_share {z : St} (hc : Cx p R s m args c D (tysWX g) A (WX a g) cX1_share 3 RX1 1 21) (hr : Rtv p l e R s m args below meth c Q D A (WX a g) cX1_share z) : ∀ (S : St) (v1 : Int32) (v2 : Int32), f_X1_share S v1 v2 = some z → Go p l e R s m args below meth c Q D A (WX a g) 3 S 0 [(0, .ref (a 3)), (1, .int v1), (2, .int v2)] [] := by
  obtain ⟨⟨hx, hb, hml, hown, hts⟩, -, -, -, hnf, hno⟩ := id hc
  intro S v1 v2 h H locs ls hP hS hl
  rw [f_X1_share] at h
  replace hl : lv_has ls 3 [(0, .ref (a 3)), (1, .int v1), (2, .int v2)] := hl
  refine lv_aload_n hx hb dX1_share_0 rfl (lv_at hl 0 rfl) ?_
  refine gfWX_Edges_shared hc hP q_67 dX1_share_1 ?_
  refine lv_iload_n hx hb dX1_share_4 rfl (lv_at hl 1 rfl) ?_
  refine lv_iload_n hx hb dX1_share_5 rfl (lv_at hl 2 rfl) ?_
  refine va_mmin hx hb (hml.trans hl.1.symm) hown (hts _ q_387) (hts _ q_388) (hts _ q_389) (hts _ q_390) (Nat.le_trans (Nat.le_of_ble_eq_true rfl) hnf) (Nat.le_trans (Nat.le_of_ble_eq_true rfl) hno) (Nat.zero_le _) (Nat.zero_le _) dX1_share_6 ?_
  refine lv_bipush (v := 16) hx hb dX1_share_9 (by decide) ?_
  refine lv_imul hx hb dX1_share_11 ?_
  refine lv_iload_n hx hb dX1_share_12 rfl (lv_at hl 1 rfl) ?_
  refine lv_iload_n hx hb dX1_share_13 rfl (lv_at hl 2 rfl) ?_
  refine va_mmax hx hb (hml.trans hl.1.symm) hown (hts _ q_391) (hts _ q_392) (hts _ q_389) (hts _ q_393) (Nat.le_trans (Nat.le_of_ble_eq_true rfl) hnf) (Nat.le_trans (Nat.le_of_ble_eq_true rfl) hno) (Nat.zero_le _) (Nat.zero_le _) dX1_share_14 ?_
  refine lv_iadd hx hb dX1_share_17 ?_
  refine lv_dup2_11 hx hb dX1_share_18 rfl rfl ?_
  obtain ⟨h1, h⟩ := chk_at h
  refine alWX_Edges_shared hc hP h1 dX1_share_19 ?_
  refine lv_iconst (v := 1) hx hb dX1_share_20 (by decide) ?_
  refine lv_iadd hx hb dX1_share_21 ?_
  obtain ⟨h2, h⟩ := chk_at h
  refine asWX_Edges_shared hc hP hS h2 dX1_share_22 (fun H locs hP hS => ?_)
  obtain ⟨S3, eS3⟩ : ∃ z, z = sa S 12 ((((if v2 < v1 then v2 else v1) * (16 : Int32)) + (if v1 < v2 then v2 else v1))).toNatClampNeg ((ga S 12 ((((if v2 < v1 then v2 else v1) * (16 : Int32)) + (if v1 < v2 then v2 else v1))).toNatClampNeg) + (1 : Int32)) := ⟨_, rfl⟩
  replace h := olet_at eS3 h
  rw [← eS3] at hP
  obtain rfl := Option.some.inj h
  exact hr _ _ _ _ dX1_share_23 hP hS
abbrev rm_X1_share : Room := { frames := 1, cells := 0, slots := 0, locals := 21 }
theorem c_X1_share {l : Launch} {D : va_G} {a : Nat → Nat} {g : Nat → ClassId} {S : St} {v1 : Int32} {v2 : Int32} {z : St} (h : f_X1_share S v1 v2 = some z) : MetV l D (tysWX g) (WX a g) E0 yX1_share cX1_share 3 none rm_X1_share [.ref (a 3), .int v1, .int v2] S z := mk_v (WX_same a g) (by decide) z (Nat.le_of_ble_eq_true rfl) (fun p e s m args below meth c A Q hc hE hr => t_X1_share hc hr S v1 v2 h)
theorem k_X1_share : CalV RX1 yX1_share cX1_share 3 none rm_X1_share 2 := ⟨q_384, q_385, q_22, q_386, by decide +kernel, rfl, rfl⟩
set_option maxHeartbeats 4000000 in
set_option maxRecDepth 100000 in
theorem t_X1_append {z : St} (hc : Cx p R s m args c D (tysWX g) A (WX a g) cX1_append 3 RX1 0 0) (hr : Rtv p l e R s m args below meth c Q D A (WX a g) cX1_append z) : ∀ (S : St) (v1 : Int32) (v2 : Int32), f_X1_append S v1 v2 = some z → Go p l e R s m args below meth c Q D A (WX a g) 3 S 0 [(0, .ref (a 3)), (1, .int v1), (2, .int v2)] [] := by
  obtain ⟨⟨hx, hb, hml, hown, hts⟩, -, -, -, hnf, hno⟩ := id hc
  intro S v1 v2 h H locs ls hP hS hl
  rw [f_X1_append] at h
  replace hl : lv_has ls 3 [(0, .ref (a 3)), (1, .int v1), (2, .int v2)] := hl
  refine lv_aload_n hx hb dX1_append_0 rfl (lv_at hl 0 rfl) ?_
  refine gfWX_Edges_number hc hP q_66 dX1_append_1 ?_
  refine lv_iload_n hx hb dX1_append_4 rfl (lv_at hl 1 rfl) ?_
  refine lv_bipush (v := 16) hx hb dX1_append_5 (by decide) ?_
  refine lv_imul hx hb dX1_append_7 ?_
  refine lv_iload_n hx hb dX1_append_8 rfl (lv_at hl 2 rfl) ?_
  refine lv_iadd hx hb dX1_append_9 ?_
  refine lv_aload_n hx hb dX1_append_10 rfl (lv_at hl 0 rfl) ?_
  refine gfWX_Edges_count hc hP q_376 dX1_append_11 ?_
  obtain ⟨h1, h⟩ := chk_at h
  refine asWX_Edges_number hc hP hS h1 dX1_append_14 (fun H locs hP hS => ?_)
  obtain ⟨S2, eS2⟩ : ∃ z, z = sa S 11 (((v1 * (16 : Int32)) + v2)).toNatClampNeg (gi S 9) := ⟨_, rfl⟩
  replace h := olet_at eS2 h
  rw [← eS2] at hP
  refine lv_aload_n hx hb dX1_append_15 rfl (lv_at hl 0 rfl) ?_
  refine gfWX_Edges_number hc hP q_66 dX1_append_16 ?_
  refine lv_iload_n hx hb dX1_append_19 rfl (lv_at hl 2 rfl) ?_
  refine lv_bipush (v := 16) hx hb dX1_append_20 (by decide) ?_
  refine lv_imul hx hb dX1_append_22 ?_
  refine lv_iload_n hx hb dX1_append_23 rfl (lv_at hl 1 rfl) ?_
  refine lv_iadd hx hb dX1_append_24 ?_
  refine lv_aload_n hx hb dX1_append_25 rfl (lv_at hl 0 rfl) ?_
  refine gfWX_Edges_count hc hP q_376 dX1_append_26 ?_
  obtain ⟨h3, h⟩ := chk_at h
  refine asWX_Edges_number hc hP hS h3 dX1_append_29 (fun H locs hP hS => ?_)
  obtain ⟨S4, eS4⟩ : ∃ z, z = sa S2 11 (((v2 * (16 : Int32)) + v1)).toNatClampNeg (gi S2 9) := ⟨_, rfl⟩
  replace h := olet_at eS4 h
  rw [← eS4] at hP
  refine lv_aload_n hx hb dX1_append_30 rfl (lv_at hl 0 rfl) ?_
  refine gfWX_Edges_low hc hP q_68 dX1_append_31 ?_
  refine lv_aload_n hx hb dX1_append_34 rfl (lv_at hl 0 rfl) ?_
  refine gfWX_Edges_count hc hP q_376 dX1_append_35 ?_
  refine lv_iload_n hx hb dX1_append_38 rfl (lv_at hl 1 rfl) ?_
  obtain ⟨h5, h⟩ := chk_at h
  refine asWX_Edges_low hc hP hS h5 dX1_append_39 (fun H locs hP hS => ?_)
  obtain ⟨S6, eS6⟩ : ∃ z, z = sa S4 13 ((gi S4 9)).toNatClampNeg v1 := ⟨_, rfl⟩
  replace h := olet_at eS6 h
  rw [← eS6] at hP
  refine lv_aload_n hx hb dX1_append_40 rfl (lv_at hl 0 rfl) ?_
  refine gfWX_Edges_high hc hP q_69 dX1_append_41 ?_
  refine lv_aload_n hx hb dX1_append_44 rfl (lv_at hl 0 rfl) ?_
  refine gfWX_Edges_count hc hP q_376 dX1_append_45 ?_
  refine lv_iload_n hx hb dX1_append_48 rfl (lv_at hl 2 rfl) ?_
  obtain ⟨h7, h⟩ := chk_at h
  refine asWX_Edges_high hc hP hS h7 dX1_append_49 (fun H locs hP hS => ?_)
  obtain ⟨S8, eS8⟩ : ∃ z, z = sa S6 14 ((gi S6 9)).toNatClampNeg v2 := ⟨_, rfl⟩
  replace h := olet_at eS8 h
  rw [← eS8] at hP
  refine lv_aload_n hx hb dX1_append_50 rfl (lv_at hl 0 rfl) ?_
  refine gfWX_Edges_sharing hc hP q_70 dX1_append_51 ?_
  refine lv_aload_n hx hb dX1_append_54 rfl (lv_at hl 0 rfl) ?_
  refine gfWX_Edges_count hc hP q_376 dX1_append_55 ?_
  refine lv_aload_n hx hb dX1_append_58 rfl (lv_at hl 0 rfl) ?_
  refine gfWX_Edges_shared hc hP q_67 dX1_append_59 ?_
  refine lv_iload_n hx hb dX1_append_62 rfl (lv_at hl 1 rfl) ?_
  refine lv_bipush (v := 16) hx hb dX1_append_63 (by decide) ?_
  refine lv_imul hx hb dX1_append_65 ?_
  refine lv_iload_n hx hb dX1_append_66 rfl (lv_at hl 2 rfl) ?_
  refine lv_iadd hx hb dX1_append_67 ?_
  obtain ⟨h9, h⟩ := chk_at h
  refine alWX_Edges_shared hc hP h9 dX1_append_68 ?_
  obtain ⟨h10, h⟩ := chk_at h
  refine asWX_Edges_sharing hc hP hS h10 dX1_append_69 (fun H locs hP hS => ?_)
  obtain ⟨S11, eS11⟩ : ∃ z, z = sa S8 15 ((gi S8 9)).toNatClampNeg (ga S8 12 (((v1 * (16 : Int32)) + v2)).toNatClampNeg) := ⟨_, rfl⟩
  replace h := olet_at eS11 h
  rw [← eS11] at hP
  refine lv_aload_n hx hb dX1_append_70 rfl (lv_at hl 0 rfl) ?_
  refine lv_dup hx hb dX1_append_71 rfl ?_
  refine gfWX_Edges_count hc hP q_376 dX1_append_72 ?_
  refine lv_iconst (v := 1) hx hb dX1_append_75 (by decide) ?_
  refine lv_iadd hx hb dX1_append_76 ?_
  refine pfWX_Edges_count hc hP hS q_376 dX1_append_77 (fun H locs hP hS => ?_)
  obtain ⟨S12, eS12⟩ : ∃ z, z = si S11 9 ((gi S11 9) + (1 : Int32)) := ⟨_, rfl⟩
  replace h := olet_at eS12 h
  rw [← eS12] at hP
  obtain rfl := Option.some.inj h
  exact hr _ _ _ _ dX1_append_80 hP hS
abbrev rm_X1_append : Room := { frames := 0, cells := 0, slots := 0, locals := 0 }
theorem c_X1_append {l : Launch} {D : va_G} {a : Nat → Nat} {g : Nat → ClassId} {S : St} {v1 : Int32} {v2 : Int32} {z : St} (h : f_X1_append S v1 v2 = some z) : MetV l D (tysWX g) (WX a g) E0 yX1_append cX1_append 3 none rm_X1_append [.ref (a 3), .int v1, .int v2] S z := mk_v (WX_same a g) (by decide) z (Nat.le_of_ble_eq_true rfl) (fun p e s m args below meth c A Q hc hE hr => t_X1_append hc hr S v1 v2 h)
theorem k_X1_append : CalV RX1 yX1_append cX1_append 3 none rm_X1_append 2 := ⟨q_396, q_397, q_22, q_398, by decide +kernel, rfl, rfl⟩
set_option maxHeartbeats 4000000 in
set_option maxRecDepth 100000 in
theorem t_X1_inOnePlane_p3 {z : St × Int32} (hc : Cx p R s m args c D (tysWX g) A (WX a g) cX1_inOnePlane 5 RX1 2 46) (hr : Rtz p l e R s m args below meth c Q D A (WX a g) cX1_inOnePlane z) : ∀ (fu : Nat) (S : St) (v2 : Int32) (v3 : Int32) (v4 : Int32), f_X1_inOnePlane_p3 fu S v2 v3 v4 = some z → Go p l e R s m args below meth c Q D A (WX a g) 5 S 3 [(0, .ref (a 1)), (1, .ref (a 2)), (2, .int v2), (3, .int v3), (4, .int v4)] [] := by
  obtain ⟨⟨hx, hb, hml, hown, hts⟩, -, -, -, hnf, hno⟩ := id hc
  intro fu
  induction fu with
  | zero =>
    intro S v2 v3 v4 h
    rw [f_X1_inOnePlane_p3] at h
    cases h
  | succ fu ih =>
    intro S v2 v3 v4 h H locs ls hP hS hl
    rw [f_X1_inOnePlane_p3] at h
    refine lv_iload hx hb dX1_inOnePlane_3 (lv_at hl 4 rfl) ?_
    refine lv_iconst (v := 3) hx hb dX1_inOnePlane_5 (by decide) ?_
    refine lv_icmp_ge (tgt := 33) hx hb dX1_inOnePlane_6 (by decide) (fun hq => ?_) (fun hq => ?_)
    · replace h := if_yes hq h
      refine lv_iconst (v := 1) hx hb dX1_inOnePlane_33 (by decide) ?_
      obtain rfl := Option.some.inj h
      exact hr (Or.inr rfl) _ _ _ _ dX1_inOnePlane_34 hP hS
    · replace h := if_no hq h
      refine lv_aload_n hx hb dX1_inOnePlane_9 rfl (lv_at hl 1 rfl) ?_
      refine lv_aload_n hx hb dX1_inOnePlane_10 rfl (lv_at hl 0 rfl) ?_
      refine lv_iload_n hx hb dX1_inOnePlane_11 rfl (lv_at hl 2 rfl) ?_
      refine lv_aload_n hx hb dX1_inOnePlane_12 rfl (lv_at hl 0 rfl) ?_
      refine lv_iload_n hx hb dX1_inOnePlane_13 rfl (lv_at hl 3 rfl) ?_
      refine lv_iload hx hb dX1_inOnePlane_14 (lv_at hl 4 rfl) ?_
      obtain ⟨S1, x3, hk2, h⟩ := ob2_at h
      refine cl_Vi (As := [.int v3, .int v4]) (rest := [.int v2, .ref (a 1), .ref (a 2)]) hc k_X4_cornerOf q_382 (c_X4_cornerOf hk2) hP hS (WX_1 a g S) rfl rfl rfl hl (Nat.le_of_ble_eq_true rfl) dX1_inOnePlane_16 (Nat.le_of_ble_eq_true rfl) (Nat.le_of_ble_eq_true rfl) rfl (fun H locs hP hS => ?_)
      obtain ⟨S4, x6, hk5, h⟩ := ob2_at h
      refine cl_Vi (As := [.ref (a 1), .int v2, .int x3]) (rest := []) hc k_X6_depth q_412 (c_X6_depth hk5) hP hS (WX_2 a g S1) rfl rfl rfl hl (Nat.le_of_ble_eq_true rfl) dX1_inOnePlane_19 (Nat.le_of_ble_eq_true rfl) (Nat.le_of_ble_eq_true rfl) rfl (fun H locs hP hS => ?_)
      refine lv_if_eq (tgt := 27) hx hb dX1_inOnePlane_22 (by decide) (fun hq => ?_) (fun hq => ?_)
      · replace h := if_yes hq h
        obtain ⟨x7, ex7⟩ : ∃ y : Int32, y = v4 + (1 : Int32) := ⟨_, rfl⟩
        replace h := olet_at ex7 h
        refine lv_iinc (v := x7) (lv' := [(4, .int x7), (0, .ref (a 1)), (1, .ref (a 2)), (2, .int v2), (3, .int v3)]) hx hb dX1_inOnePlane_27 hl (k := 4) rfl (by rw [ex7]; rfl) (by decide) rfl (fun ls hl => ?_)
        refine lv_goto (tgt := 3) hx hb dX1_inOnePlane_30 (by decide) ?_
        exact ih S4 v2 v3 x7 h H locs ls hP hS (lv_sub hl [1, 2, 3, 4, 0] rfl)
      · replace h := if_no hq h
        refine lv_iconst (v := 0) hx hb dX1_inOnePlane_25 (by decide) ?_
        obtain rfl := Option.some.inj h
        exact hr (Or.inl rfl) _ _ _ _ dX1_inOnePlane_26 hP hS
set_option maxHeartbeats 4000000 in
set_option maxRecDepth 100000 in
theorem t_X1_inOnePlane {z : St × Int32} (hc : Cx p R s m args c D (tysWX g) A (WX a g) cX1_inOnePlane 5 RX1 2 46) (hr : Rtz p l e R s m args below meth c Q D A (WX a g) cX1_inOnePlane z) : ∀ (S : St) (v2 : Int32) (v3 : Int32), f_X1_inOnePlane S v2 v3 = some z → Go p l e R s m args below meth c Q D A (WX a g) 5 S 0 [(0, .ref (a 1)), (1, .ref (a 2)), (2, .int v2), (3, .int v3)] [] := by
  obtain ⟨⟨hx, hb, hml, hown, hts⟩, -, -, -, hnf, hno⟩ := id hc
  intro S v2 v3 h H locs ls hP hS hl
  rw [f_X1_inOnePlane] at h
  replace hl : lv_has ls 5 [(0, .ref (a 1)), (1, .ref (a 2)), (2, .int v2), (3, .int v3)] := hl
  refine lv_iconst (v := 0) hx hb dX1_inOnePlane_0 (by decide) ?_
  refine lv_istore (lv' := [(4, .int (0 : Int32)), (0, .ref (a 1)), (1, .ref (a 2)), (2, .int v2), (3, .int v3)]) hx hb dX1_inOnePlane_1 hl (by decide) rfl (fun ls hl => ?_)
  exact t_X1_inOnePlane_p3 hc hr FU S v2 v3 (0 : Int32) h H locs ls hP hS (lv_sub hl [1, 2, 3, 4, 0] rfl)
abbrev rm_X1_inOnePlane : Room := { frames := 2, cells := 0, slots := 0, locals := 46 }
theorem c_X1_inOnePlane {l : Launch} {D : va_G} {a : Nat → Nat} {g : Nat → ClassId} {S : St} {v2 : Int32} {v3 : Int32} {z : St × Int32} (h : f_X1_inOnePlane S v2 v3 = some z) : MetI l D (tysWX g) (WX a g) E0 yX1_inOnePlane cX1_inOnePlane 5 (some .boolean) rm_X1_inOnePlane [.ref (a 1), .ref (a 2), .int v2, .int v3] S z := mk_z (WX_same a g) (by decide) z (Nat.le_of_ble_eq_true rfl) (fun p e s m args below meth c A Q hc hE hr => t_X1_inOnePlane hc hr S v2 v3 h)
theorem k_X1_inOnePlane : CalS yX1_inOnePlane cX1_inOnePlane 5 (some .boolean) rm_X1_inOnePlane 4 := ⟨q_410, q_22, q_411, by decide +kernel, rfl, rfl⟩
set_option maxHeartbeats 4000000 in
set_option maxRecDepth 100000 in
theorem t_X1_sortOf_p105 {z : St × Int32} (hc : Cx p R s m args c D (tysWX g) A (WX a g) cX1_sortOf 6 RX1 3 70) (hr : Rti p l e R s m args below meth c Q D A (WX a g) cX1_sortOf z) : ∀ (S : St) (v5 : Int32) (s0 : Int32), f_X1_sortOf_p105 S v5 s0 = some z → Go p l e R s m args below meth c Q D A (WX a g) 6 S 105 [(2, .ref (a 2)), (5, .int v5)] [.int s0] := by
  obtain ⟨⟨hx, hb, hml, hown, hts⟩, -, -, -, hnf, hno⟩ := id hc
  intro S v5 s0 h H locs ls hP hS hl
  rw [f_X1_sortOf_p105] at h
  refine lv_aload_n hx hb dX1_sortOf_105 rfl (lv_at hl 0 rfl) ?_
  refine gfWX_Sight_swing hc hP q_403 dX1_sortOf_106 ?_
  refine lv_iload hx hb dX1_sortOf_109 (lv_at hl 1 rfl) ?_
  obtain ⟨h1, h⟩ := chk_at h
  refine alWX_Sight_swing hc hP h1 dX1_sortOf_111 ?_
  refine lv_if_le (tgt := 119) hx hb dX1_sortOf_112 (by decide) (fun hq => ?_) (fun hq => ?_)
  · replace h := if_yes hq h
    refine lv_iconst (v := 0) hx hb dX1_sortOf_119 (by decide) ?_
    refine lv_icmp_eq (tgt := 127) hx hb dX1_sortOf_120 (by decide) (fun hq => ?_) (fun hq => ?_)
    · replace h := if_yes hq h
      refine lv_iconst (v := 4) hx hb dX1_sortOf_127 (by decide) ?_
      obtain rfl := Option.some.inj h
      exact hr _ _ _ _ dX1_sortOf_128 hP hS
    · replace h := if_no hq h
      refine lv_iconst (v := 3) hx hb dX1_sortOf_123 (by decide) ?_
      refine lv_goto (tgt := 128) hx hb dX1_sortOf_124 (by decide) ?_
      obtain rfl := Option.some.inj h
      exact hr _ _ _ _ dX1_sortOf_128 hP hS
  · replace h := if_no hq h
    refine lv_iconst (v := 1) hx hb dX1_sortOf_115 (by decide) ?_
    refine lv_goto (tgt := 120) hx hb dX1_sortOf_116 (by decide) ?_
    refine lv_icmp_eq (tgt := 127) hx hb dX1_sortOf_120 (by decide) (fun hq => ?_) (fun hq => ?_)
    · replace h := if_yes hq h
      refine lv_iconst (v := 4) hx hb dX1_sortOf_127 (by decide) ?_
      obtain rfl := Option.some.inj h
      exact hr _ _ _ _ dX1_sortOf_128 hP hS
    · replace h := if_no hq h
      refine lv_iconst (v := 3) hx hb dX1_sortOf_123 (by decide) ?_
      refine lv_goto (tgt := 128) hx hb dX1_sortOf_124 (by decide) ?_
      obtain rfl := Option.some.inj h
      exact hr _ _ _ _ dX1_sortOf_128 hP hS
set_option maxHeartbeats 4000000 in
set_option maxRecDepth 100000 in
theorem t_X1_sortOf {z : St × Int32} (hc : Cx p R s m args c D (tysWX g) A (WX a g) cX1_sortOf 6 RX1 3 70) (hr : Rti p l e R s m args below meth c Q D A (WX a g) cX1_sortOf z) : ∀ (S : St) (v3 : Int32), f_X1_sortOf S v3 = some z → Go p l e R s m args below meth c Q D A (WX a g) 6 S 0 [(0, .ref (a 3)), (1, .ref (a 1)), (2, .ref (a 2)), (3, .int v3)] [] := by
  obtain ⟨⟨hx, hb, hml, hown, hts⟩, -, -, -, hnf, hno⟩ := id hc
  intro S v3 h H locs ls hP hS hl
  rw [f_X1_sortOf] at h
  replace hl : lv_has ls 6 [(0, .ref (a 3)), (1, .ref (a 1)), (2, .ref (a 2)), (3, .int v3)] := hl
  refine lv_aload_n hx hb dX1_sortOf_0 rfl (lv_at hl 0 rfl) ?_
  refine gfWX_Edges_sharing hc hP q_70 dX1_sortOf_1 ?_
  refine lv_iload_n hx hb dX1_sortOf_4 rfl (lv_at hl 3 rfl) ?_
  obtain ⟨h1, h⟩ := chk_at h
  refine alWX_Edges_sharing hc hP h1 dX1_sortOf_5 ?_
  refine lv_if_ne (tgt := 11) hx hb dX1_sortOf_6 (by decide) (fun hq => ?_) (fun hq => ?_)
  · replace h := if_no hq h
    refine lv_aload_n hx hb dX1_sortOf_11 rfl (lv_at hl 1 rfl) ?_
    refine lv_aload_n hx hb dX1_sortOf_12 rfl (lv_at hl 0 rfl) ?_
    refine gfWX_Edges_low hc hP q_68 dX1_sortOf_13 ?_
    refine lv_iload_n hx hb dX1_sortOf_16 rfl (lv_at hl 3 rfl) ?_
    obtain ⟨h2, h⟩ := chk_at h
    refine alWX_Edges_low hc hP h2 dX1_sortOf_17 ?_
    refine lv_aload_n hx hb dX1_sortOf_18 rfl (lv_at hl 0 rfl) ?_
    refine gfWX_Edges_high hc hP q_69 dX1_sortOf_19 ?_
    refine lv_iload_n hx hb dX1_sortOf_22 rfl (lv_at hl 3 rfl) ?_
    obtain ⟨h3, h⟩ := chk_at h
    refine alWX_Edges_high hc hP h3 dX1_sortOf_23 ?_
    refine lv_iconst (v := 0) hx hb dX1_sortOf_24 (by decide) ?_
    obtain ⟨S4, x6, hk5, h⟩ := ob2_at h
    refine cl_Vi (As := [.int (ga S 13 (v3).toNatClampNeg), .int (ga S 14 (v3).toNatClampNeg), .int (0 : Int32)]) (rest := []) hc k_X4_faceWith q_404 (c_X4_faceWith hk5) hP hS (WX_1 a g S) rfl rfl rfl hl (Nat.le_of_ble_eq_true rfl) dX1_sortOf_25 (Nat.le_of_ble_eq_true rfl) (Nat.le_of_ble_eq_true rfl) rfl (fun H locs hP hS => ?_)
    refine lv_istore (lv' := [(4, .int x6), (0, .ref (a 3)), (1, .ref (a 1)), (2, .ref (a 2)), (3, .int v3)]) hx hb dX1_sortOf_28 hl (by decide) rfl (fun ls hl => ?_)
    refine lv_aload_n hx hb dX1_sortOf_30 rfl (lv_at hl 2 rfl) ?_
    refine lv_aload_n hx hb dX1_sortOf_31 rfl (lv_at hl 1 rfl) ?_
    refine gfWX_Edges_low hc hP q_68 dX1_sortOf_32 ?_
    refine lv_iload_n hx hb dX1_sortOf_35 rfl (lv_at hl 4 rfl) ?_
    obtain ⟨h7, h⟩ := chk_at h
    refine alWX_Edges_low hc hP h7 dX1_sortOf_36 ?_
    refine lv_aload_n hx hb dX1_sortOf_37 rfl (lv_at hl 1 rfl) ?_
    refine gfWX_Edges_high hc hP q_69 dX1_sortOf_38 ?_
    refine lv_iload_n hx hb dX1_sortOf_41 rfl (lv_at hl 4 rfl) ?_
    obtain ⟨h8, h⟩ := chk_at h
    refine alWX_Edges_high hc hP h8 dX1_sortOf_42 ?_
    refine lv_iload hx hb dX1_sortOf_43 (lv_at hl 0 rfl) ?_
    refine lv_iconst (v := 1) hx hb dX1_sortOf_45 (by decide) ?_
    refine lv_iadd hx hb dX1_sortOf_46 ?_
    obtain ⟨S9, x11, hk10, h⟩ := ob2_at h
    refine cl_Vi (As := [.int (ga S4 13 (v3).toNatClampNeg), .int (ga S4 14 (v3).toNatClampNeg), .int (x6 + (1 : Int32))]) (rest := []) hc k_X4_faceWith q_404 (c_X4_faceWith hk10) hP hS (WX_1 a g S4) rfl rfl rfl hl (Nat.le_of_ble_eq_true rfl) dX1_sortOf_47 (Nat.le_of_ble_eq_true rfl) (Nat.le_of_ble_eq_true rfl) rfl (fun H locs hP hS => ?_)
    refine lv_istore (lv' := [(5, .int x11), (4, .int x6), (0, .ref (a 3)), (1, .ref (a 1)), (2, .ref (a 2)), (3, .int v3)]) hx hb dX1_sortOf_50 hl (by decide) rfl (fun ls hl => ?_)
    refine lv_iload hx hb dX1_sortOf_52 (lv_at hl 1 rfl) ?_
    refine lv_if_lt (tgt := 62) hx hb dX1_sortOf_54 (by decide) (fun hq => ?_) (fun hq => ?_)
    · replace h := if_yes hq h
      refine lv_iconst (v := 1) hx hb dX1_sortOf_62 (by decide) ?_
      obtain rfl := Option.some.inj h
      exact hr _ _ _ _ dX1_sortOf_63 hP hS
    · replace h := if_no hq h
      refine lv_iload hx hb dX1_sortOf_57 (lv_at hl 0 rfl) ?_
      refine lv_if_ge (tgt := 64) hx hb dX1_sortOf_59 (by decide) (fun hq => ?_) (fun hq => ?_)
      · replace h := if_yes hq h
        refine lv_aload_n hx hb dX1_sortOf_64 rfl (lv_at hl 2 rfl) ?_
        refine gfWX_Edges_sharing hc hP q_70 dX1_sortOf_65 ?_
        refine lv_iload_n hx hb dX1_sortOf_68 rfl (lv_at hl 5 rfl) ?_
        obtain ⟨h12, h⟩ := chk_at h
        refine alWX_Edges_sharing hc hP h12 dX1_sortOf_69 ?_
        refine lv_iconst (v := 2) hx hb dX1_sortOf_70 (by decide) ?_
        refine lv_icmp_le (tgt := 76) hx hb dX1_sortOf_71 (by decide) (fun hq => ?_) (fun hq => ?_)
        · replace h := if_yes hq h
          refine lv_aload_n hx hb dX1_sortOf_76 rfl (lv_at hl 3 rfl) ?_
          refine lv_aload_n hx hb dX1_sortOf_77 rfl (lv_at hl 4 rfl) ?_
          refine lv_iload hx hb dX1_sortOf_78 (lv_at hl 1 rfl) ?_
          refine lv_iload hx hb dX1_sortOf_80 (lv_at hl 0 rfl) ?_
          obtain ⟨S13, x15, hk14, h⟩ := ob2_at h
          refine cl_Si (As := [.ref (a 1), .ref (a 2), .int x6, .int x11]) (rest := []) hc k_X1_inOnePlane q_409 (c_X1_inOnePlane hk14) hP hS rfl hl (Nat.le_of_ble_eq_true rfl) dX1_sortOf_82 (Nat.le_of_ble_eq_true rfl) (Nat.le_of_ble_eq_true rfl) rfl (fun H locs hP hS => ?_)
          refine lv_if_eq (tgt := 90) hx hb dX1_sortOf_85 (by decide) (fun hq => ?_) (fun hq => ?_)
          · replace h := if_yes hq h
            refine lv_aload_n hx hb dX1_sortOf_90 rfl (lv_at hl 4 rfl) ?_
            refine gfWX_Sight_swing hc hP q_403 dX1_sortOf_91 ?_
            refine lv_iload hx hb dX1_sortOf_94 (lv_at hl 1 rfl) ?_
            obtain ⟨h16, h⟩ := chk_at h
            refine alWX_Sight_swing hc hP h16 dX1_sortOf_96 ?_
            refine lv_if_le (tgt := 104) hx hb dX1_sortOf_97 (by decide) (fun hq => ?_) (fun hq => ?_)
            · replace h := if_yes hq h
              refine lv_iconst (v := 0) hx hb dX1_sortOf_104 (by decide) ?_
              exact t_X1_sortOf_p105 hc hr S13 x11 (0 : Int32) h H locs ls hP hS (lv_sub hl [4, 0] rfl)
            · replace h := if_no hq h
              refine lv_iconst (v := 1) hx hb dX1_sortOf_100 (by decide) ?_
              refine lv_goto (tgt := 105) hx hb dX1_sortOf_101 (by decide) ?_
              exact t_X1_sortOf_p105 hc hr S13 x11 (1 : Int32) h H locs ls hP hS (lv_sub hl [4, 0] rfl)
          · replace h := if_no hq h
            refine lv_iconst (v := 2) hx hb dX1_sortOf_88 (by decide) ?_
            obtain rfl := Option.some.inj h
            exact hr _ _ _ _ dX1_sortOf_89 hP hS
        · replace h := if_no hq h
          refine lv_iconst (v := 5) hx hb dX1_sortOf_74 (by decide) ?_
          obtain rfl := Option.some.inj h
          exact hr _ _ _ _ dX1_sortOf_75 hP hS
      · replace h := if_no hq h
        refine lv_iconst (v := 1) hx hb dX1_sortOf_62 (by decide) ?_
        obtain rfl := Option.some.inj h
        exact hr _ _ _ _ dX1_sortOf_63 hP hS
  · replace h := if_yes hq h
    refine lv_iconst (v := 0) hx hb dX1_sortOf_9 (by decide) ?_
    obtain rfl := Option.some.inj h
    exact hr _ _ _ _ dX1_sortOf_10 hP hS
abbrev rm_X1_sortOf : Room := { frames := 3, cells := 0, slots := 0, locals := 70 }
theorem c_X1_sortOf {l : Launch} {D : va_G} {a : Nat → Nat} {g : Nat → ClassId} {S : St} {v3 : Int32} {z : St × Int32} (h : f_X1_sortOf S v3 = some z) : MetI l D (tysWX g) (WX a g) E0 yX1_sortOf cX1_sortOf 6 (some .int) rm_X1_sortOf [.ref (a 3), .ref (a 1), .ref (a 2), .int v3] S z := mk_i (WX_same a g) (by decide) z (Nat.le_of_ble_eq_true rfl) (fun p e s m args below meth c A Q hc hE hr => t_X1_sortOf hc hr S v3 h)
theorem k_X1_sortOf : CalV RX1 yX1_sortOf cX1_sortOf 6 (some .int) rm_X1_sortOf 3 := ⟨q_400, q_401, q_22, q_402, by decide +kernel, rfl, rfl⟩
set_option maxHeartbeats 4000000 in
set_option maxRecDepth 100000 in
theorem t_X1_rebuild_p101 {z : St} (hc : Cx p R s m args c D (tysWX g) A (WX a g) cX1_rebuild 5 RX1 4 95) (hr : Rtv p l e R s m args below meth c Q D A (WX a g) cX1_rebuild z) {k88 : St → Int32 → Option (St)} (K88 : ∀ (S : St) (v3 : Int32), k88 S v3 = some z → Go p l e R s m args below meth c Q D A (WX a g) 5 S 88 [(0, .ref (a 3)), (1, .ref (a 1)), (2, .ref (a 2)), (3, .int v3)] []) : ∀ (fu : Nat) (S : St) (v3 : Int32) (v4 : Int32), f_X1_rebuild_p101 k88 fu S v3 v4 = some z → Go p l e R s m args below meth c Q D A (WX a g) 5 S 101 [(0, .ref (a 3)), (1, .ref (a 1)), (2, .ref (a 2)), (3, .int v3), (4, .int v4)] [] := by
  obtain ⟨⟨hx, hb, hml, hown, hts⟩, -, -, -, hnf, hno⟩ := id hc
  intro fu
  induction fu with
  | zero =>
    intro S v3 v4 h
    rw [f_X1_rebuild_p101] at h
    cases h
  | succ fu ih =>
    intro S v3 v4 h H locs ls hP hS hl
    rw [f_X1_rebuild_p101] at h
    refine lv_iload hx hb dX1_rebuild_101 (lv_at hl 4 rfl) ?_
    refine lv_aload_n hx hb dX1_rebuild_103 rfl (lv_at hl 1 rfl) ?_
    refine gfWX_Mesh_points hc hP q_377 dX1_rebuild_104 ?_
    refine lv_icmp_ge (tgt := 157) hx hb dX1_rebuild_107 (by decide) (fun hq => ?_) (fun hq => ?_)
    · replace h := if_yes hq h
      obtain ⟨x1, ex1⟩ : ∃ y : Int32, y = v3 + (1 : Int32) := ⟨_, rfl⟩
      replace h := olet_at ex1 h
      refine lv_iinc (v := x1) (lv' := [(3, .int x1), (0, .ref (a 3)), (1, .ref (a 1)), (2, .ref (a 2)), (4, .int v4)]) hx hb dX1_rebuild_157 hl (k := 3) rfl (by rw [ex1]; rfl) (by decide) rfl (fun ls hl => ?_)
      refine lv_goto (tgt := 88) hx hb dX1_rebuild_160 (by decide) ?_
      exact K88 S x1 h H locs ls hP hS (lv_sub hl [1, 2, 3, 0] rfl)
    · replace h := if_no hq h
      refine lv_aload_n hx hb dX1_rebuild_110 rfl (lv_at hl 0 rfl) ?_
      refine gfWX_Edges_count hc hP q_376 dX1_rebuild_111 ?_
      refine lv_bipush (v := 80) hx hb dX1_rebuild_114 (by decide) ?_
      refine lv_icmp_ge (tgt := 151) hx hb dX1_rebuild_116 (by decide) (fun hq => ?_) (fun hq => ?_)
      · replace h := if_yes hq h
        obtain ⟨x2, ex2⟩ : ∃ y : Int32, y = v4 + (1 : Int32) := ⟨_, rfl⟩
        replace h := olet_at ex2 h
        refine lv_iinc (v := x2) (lv' := [(4, .int x2), (0, .ref (a 3)), (1, .ref (a 1)), (2, .ref (a 2)), (3, .int v3)]) hx hb dX1_rebuild_151 hl (k := 4) rfl (by rw [ex2]; rfl) (by decide) rfl (fun ls hl => ?_)
        refine lv_goto (tgt := 101) hx hb dX1_rebuild_154 (by decide) ?_
        exact ih S v3 x2 h H locs ls hP hS (lv_sub hl [1, 2, 3, 4, 0] rfl)
      · replace h := if_no hq h
        refine lv_aload_n hx hb dX1_rebuild_119 rfl (lv_at hl 0 rfl) ?_
        refine gfWX_Edges_shared hc hP q_67 dX1_rebuild_120 ?_
        refine lv_iload_n hx hb dX1_rebuild_123 rfl (lv_at hl 3 rfl) ?_
        refine lv_bipush (v := 16) hx hb dX1_rebuild_124 (by decide) ?_
        refine lv_imul hx hb dX1_rebuild_126 ?_
        refine lv_iload hx hb dX1_rebuild_127 (lv_at hl 4 rfl) ?_
        refine lv_iadd hx hb dX1_rebuild_129 ?_
        obtain ⟨h3, h⟩ := chk_at h
        refine alWX_Edges_shared hc hP h3 dX1_rebuild_130 ?_
        refine lv_if_gt (tgt := 144) hx hb dX1_rebuild_131 (by decide) (fun hq => ?_) (fun hq => ?_)
        · replace h := if_yes hq h
          refine lv_aload_n hx hb dX1_rebuild_144 rfl (lv_at hl 0 rfl) ?_
          refine lv_iload_n hx hb dX1_rebuild_145 rfl (lv_at hl 3 rfl) ?_
          refine lv_iload hx hb dX1_rebuild_146 (lv_at hl 4 rfl) ?_
          obtain ⟨S4, hk5, h⟩ := ob1_at h
          refine cl_Vv (As := [.int v3, .int v4]) (rest := []) hc k_X1_append q_395 (c_X1_append hk5) hP hS (WX_3 a g S) rfl rfl rfl hl (Nat.le_of_ble_eq_true rfl) dX1_rebuild_148 (Nat.le_of_ble_eq_true rfl) (Nat.le_of_ble_eq_true rfl) rfl (fun H locs hP hS => ?_)
          obtain ⟨x6, ex6⟩ : ∃ y : Int32, y = v4 + (1 : Int32) := ⟨_, rfl⟩
          replace h := olet_at ex6 h
          refine lv_iinc (v := x6) (lv' := [(4, .int x6), (0, .ref (a 3)), (1, .ref (a 1)), (2, .ref (a 2)), (3, .int v3)]) hx hb dX1_rebuild_151 hl (k := 4) rfl (by rw [ex6]; rfl) (by decide) rfl (fun ls hl => ?_)
          refine lv_goto (tgt := 101) hx hb dX1_rebuild_154 (by decide) ?_
          exact ih S4 v3 x6 h H locs ls hP hS (lv_sub hl [1, 2, 3, 4, 0] rfl)
        · replace h := if_no hq h
          refine lv_aload_n hx hb dX1_rebuild_134 rfl (lv_at hl 1 rfl) ?_
          refine lv_iload_n hx hb dX1_rebuild_135 rfl (lv_at hl 3 rfl) ?_
          refine lv_iload hx hb dX1_rebuild_136 (lv_at hl 4 rfl) ?_
          obtain ⟨S7, x9, hk8, h⟩ := ob2_at h
          refine cl_Vi (As := [.int v3, .int v4]) (rest := []) hc k_X4_hasWire q_394 (c_X4_hasWire hk8) hP hS (WX_1 a g S) rfl rfl rfl hl (Nat.le_of_ble_eq_true rfl) dX1_rebuild_138 (Nat.le_of_ble_eq_true rfl) (Nat.le_of_ble_eq_true rfl) rfl (fun H locs hP hS => ?_)
          refine lv_if_eq (tgt := 151) hx hb dX1_rebuild_141 (by decide) (fun hq => ?_) (fun hq => ?_)
          · replace h := if_yes hq h
            obtain ⟨x10, ex10⟩ : ∃ y : Int32, y = v4 + (1 : Int32) := ⟨_, rfl⟩
            replace h := olet_at ex10 h
            refine lv_iinc (v := x10) (lv' := [(4, .int x10), (0, .ref (a 3)), (1, .ref (a 1)), (2, .ref (a 2)), (3, .int v3)]) hx hb dX1_rebuild_151 hl (k := 4) rfl (by rw [ex10]; rfl) (by decide) rfl (fun ls hl => ?_)
            refine lv_goto (tgt := 101) hx hb dX1_rebuild_154 (by decide) ?_
            exact ih S7 v3 x10 h H locs ls hP hS (lv_sub hl [1, 2, 3, 4, 0] rfl)
          · replace h := if_no hq h
            refine lv_aload_n hx hb dX1_rebuild_144 rfl (lv_at hl 0 rfl) ?_
            refine lv_iload_n hx hb dX1_rebuild_145 rfl (lv_at hl 3 rfl) ?_
            refine lv_iload hx hb dX1_rebuild_146 (lv_at hl 4 rfl) ?_
            obtain ⟨S11, hk12, h⟩ := ob1_at h
            refine cl_Vv (As := [.int v3, .int v4]) (rest := []) hc k_X1_append q_395 (c_X1_append hk12) hP hS (WX_3 a g S7) rfl rfl rfl hl (Nat.le_of_ble_eq_true rfl) dX1_rebuild_148 (Nat.le_of_ble_eq_true rfl) (Nat.le_of_ble_eq_true rfl) rfl (fun H locs hP hS => ?_)
            obtain ⟨x13, ex13⟩ : ∃ y : Int32, y = v4 + (1 : Int32) := ⟨_, rfl⟩
            replace h := olet_at ex13 h
            refine lv_iinc (v := x13) (lv' := [(4, .int x13), (0, .ref (a 3)), (1, .ref (a 1)), (2, .ref (a 2)), (3, .int v3)]) hx hb dX1_rebuild_151 hl (k := 4) rfl (by rw [ex13]; rfl) (by decide) rfl (fun ls hl => ?_)
            refine lv_goto (tgt := 101) hx hb dX1_rebuild_154 (by decide) ?_
            exact ih S11 v3 x13 h H locs ls hP hS (lv_sub hl [1, 2, 3, 4, 0] rfl)
set_option maxHeartbeats 4000000 in
set_option maxRecDepth 100000 in
theorem t_X1_rebuild_p165 {z : St} (hc : Cx p R s m args c D (tysWX g) A (WX a g) cX1_rebuild 5 RX1 4 95) (hr : Rtv p l e R s m args below meth c Q D A (WX a g) cX1_rebuild z) : ∀ (fu : Nat) (S : St) (v3 : Int32), f_X1_rebuild_p165 fu S v3 = some z → Go p l e R s m args below meth c Q D A (WX a g) 5 S 165 [(0, .ref (a 3)), (1, .ref (a 1)), (2, .ref (a 2)), (3, .int v3)] [] := by
  obtain ⟨⟨hx, hb, hml, hown, hts⟩, -, -, -, hnf, hno⟩ := id hc
  intro fu
  induction fu with
  | zero =>
    intro S v3 h
    rw [f_X1_rebuild_p165] at h
    cases h
  | succ fu ih =>
    intro S v3 h H locs ls hP hS hl
    rw [f_X1_rebuild_p165] at h
    refine lv_iload_n hx hb dX1_rebuild_165 rfl (lv_at hl 3 rfl) ?_
    refine lv_aload_n hx hb dX1_rebuild_166 rfl (lv_at hl 0 rfl) ?_
    refine gfWX_Edges_count hc hP q_376 dX1_rebuild_167 ?_
    refine lv_icmp_ge (tgt := 192) hx hb dX1_rebuild_170 (by decide) (fun hq => ?_) (fun hq => ?_)
    · replace h := if_yes hq h
      obtain rfl := Option.some.inj h
      exact hr _ _ _ _ dX1_rebuild_192 hP hS
    · replace h := if_no hq h
      refine lv_aload_n hx hb dX1_rebuild_173 rfl (lv_at hl 0 rfl) ?_
      refine gfWX_Edges_sort hc hP q_71 dX1_rebuild_174 ?_
      refine lv_iload_n hx hb dX1_rebuild_177 rfl (lv_at hl 3 rfl) ?_
      refine lv_aload_n hx hb dX1_rebuild_178 rfl (lv_at hl 0 rfl) ?_
      refine lv_aload_n hx hb dX1_rebuild_179 rfl (lv_at hl 1 rfl) ?_
      refine lv_aload_n hx hb dX1_rebuild_180 rfl (lv_at hl 2 rfl) ?_
      refine lv_iload_n hx hb dX1_rebuild_181 rfl (lv_at hl 3 rfl) ?_
      obtain ⟨S1, x3, hk2, h⟩ := ob2_at h
      refine cl_Vi (As := [.ref (a 1), .ref (a 2), .int v3]) (rest := [.int v3, .ref (a 24)]) hc k_X1_sortOf q_399 (c_X1_sortOf hk2) hP hS (WX_3 a g S) rfl rfl rfl hl (Nat.le_of_ble_eq_true rfl) dX1_rebuild_182 (Nat.le_of_ble_eq_true rfl) (Nat.le_of_ble_eq_true rfl) rfl (fun H locs hP hS => ?_)
      obtain ⟨h4, h⟩ := chk_at h
      refine asWX_Edges_sort hc hP hS h4 dX1_rebuild_185 (fun H locs hP hS => ?_)
      obtain ⟨S5, eS5⟩ : ∃ z, z = sa S1 16 (v3).toNatClampNeg x3 := ⟨_, rfl⟩
      replace h := olet_at eS5 h
      rw [← eS5] at hP
      obtain ⟨x6, ex6⟩ : ∃ y : Int32, y = v3 + (1 : Int32) := ⟨_, rfl⟩
      replace h := olet_at ex6 h
      refine lv_iinc (v := x6) (lv' := [(3, .int x6), (0, .ref (a 3)), (1, .ref (a 1)), (2, .ref (a 2))]) hx hb dX1_rebuild_186 hl (k := 3) rfl (by rw [ex6]; rfl) (by decide) rfl (fun ls hl => ?_)
      refine lv_goto (tgt := 165) hx hb dX1_rebuild_189 (by decide) ?_
      exact ih S5 x6 h H locs ls hP hS (lv_sub hl [1, 2, 3, 0] rfl)
set_option maxHeartbeats 4000000 in
set_option maxRecDepth 100000 in
theorem t_X1_rebuild_p88 {z : St} (hc : Cx p R s m args c D (tysWX g) A (WX a g) cX1_rebuild 5 RX1 4 95) (hr : Rtv p l e R s m args below meth c Q D A (WX a g) cX1_rebuild z) : ∀ (fu : Nat) (S : St) (v3 : Int32), f_X1_rebuild_p88 fu S v3 = some z → Go p l e R s m args below meth c Q D A (WX a g) 5 S 88 [(0, .ref (a 3)), (1, .ref (a 1)), (2, .ref (a 2)), (3, .int v3)] [] := by
  obtain ⟨⟨hx, hb, hml, hown, hts⟩, -, -, -, hnf, hno⟩ := id hc
  intro fu
  induction fu with
  | zero =>
    intro S v3 h
    rw [f_X1_rebuild_p88] at h
    cases h
  | succ fu ih =>
    intro S v3 h H locs ls hP hS hl
    rw [f_X1_rebuild_p88] at h
    refine lv_iload_n hx hb dX1_rebuild_88 rfl (lv_at hl 3 rfl) ?_
    refine lv_aload_n hx hb dX1_rebuild_89 rfl (lv_at hl 1 rfl) ?_
    refine gfWX_Mesh_points hc hP q_377 dX1_rebuild_90 ?_
    refine lv_icmp_ge (tgt := 163) hx hb dX1_rebuild_93 (by decide) (fun hq => ?_) (fun hq => ?_)
    · replace h := if_yes hq h
      refine lv_iconst (v := 0) hx hb dX1_rebuild_163 (by decide) ?_
      refine lv_istore_n (lv' := [(3, .int (0 : Int32)), (0, .ref (a 3)), (1, .ref (a 1)), (2, .ref (a 2))]) hx hb dX1_rebuild_164 rfl hl (by decide) rfl (fun ls hl => ?_)
      exact t_X1_rebuild_p165 hc hr FU S (0 : Int32) h H locs ls hP hS (lv_sub hl [1, 2, 3, 0] rfl)
    · replace h := if_no hq h
      refine lv_iload_n hx hb dX1_rebuild_96 rfl (lv_at hl 3 rfl) ?_
      refine lv_iconst (v := 1) hx hb dX1_rebuild_97 (by decide) ?_
      refine lv_iadd hx hb dX1_rebuild_98 ?_
      refine lv_topi (fun x1 ex1 => ?_)
      replace h := olet_at ex1 h
      refine lv_istore (lv' := [(4, .int x1), (0, .ref (a 3)), (1, .ref (a 1)), (2, .ref (a 2)), (3, .int v3)]) hx hb dX1_rebuild_99 hl (by decide) rfl (fun ls hl => ?_)
      exact t_X1_rebuild_p101 hc hr ih FU S v3 x1 h H locs ls hP hS (lv_sub hl [1, 2, 3, 4, 0] rfl)
set_option maxHeartbeats 4000000 in
set_option maxRecDepth 100000 in
theorem t_X1_rebuild_p19 {z : St} (hc : Cx p R s m args c D (tysWX g) A (WX a g) cX1_rebuild 5 RX1 4 95) (hr : Rtv p l e R s m args below meth c Q D A (WX a g) cX1_rebuild z) : ∀ (fu : Nat) (S : St) (v3 : Int32), f_X1_rebuild_p19 fu S v3 = some z → Go p l e R s m args below meth c Q D A (WX a g) 5 S 19 [(0, .ref (a 3)), (1, .ref (a 1)), (2, .ref (a 2)), (3, .int v3)] [] := by
  obtain ⟨⟨hx, hb, hml, hown, hts⟩, -, -, -, hnf, hno⟩ := id hc
  intro fu
  induction fu with
  | zero =>
    intro S v3 h
    rw [f_X1_rebuild_p19] at h
    cases h
  | succ fu ih =>
    intro S v3 h H locs ls hP hS hl
    rw [f_X1_rebuild_p19] at h
    refine lv_iload_n hx hb dX1_rebuild_19 rfl (lv_at hl 3 rfl) ?_
    refine lv_aload_n hx hb dX1_rebuild_20 rfl (lv_at hl 1 rfl) ?_
    refine gfWX_Mesh_faces hc hP q_375 dX1_rebuild_21 ?_
    refine lv_icmp_ge (tgt := 81) hx hb dX1_rebuild_24 (by decide) (fun hq => ?_) (fun hq => ?_)
    · replace h := if_yes hq h
      refine lv_aload_n hx hb dX1_rebuild_81 rfl (lv_at hl 0 rfl) ?_
      refine lv_iconst (v := 0) hx hb dX1_rebuild_82 (by decide) ?_
      refine pfWX_Edges_count hc hP hS q_376 dX1_rebuild_83 (fun H locs hP hS => ?_)
      obtain ⟨S1, eS1⟩ : ∃ z, z = si S 9 (0 : Int32) := ⟨_, rfl⟩
      replace h := olet_at eS1 h
      rw [← eS1] at hP
      refine lv_iconst (v := 0) hx hb dX1_rebuild_86 (by decide) ?_
      refine lv_istore_n (lv' := [(3, .int (0 : Int32)), (0, .ref (a 3)), (1, .ref (a 1)), (2, .ref (a 2))]) hx hb dX1_rebuild_87 rfl hl (by decide) rfl (fun ls hl => ?_)
      exact t_X1_rebuild_p88 hc hr FU S1 (0 : Int32) h H locs ls hP hS (lv_sub hl [1, 2, 3, 0] rfl)
    · replace h := if_no hq h
      refine lv_aload_n hx hb dX1_rebuild_27 rfl (lv_at hl 0 rfl) ?_
      refine lv_aload_n hx hb dX1_rebuild_28 rfl (lv_at hl 1 rfl) ?_
      refine lv_iload_n hx hb dX1_rebuild_29 rfl (lv_at hl 3 rfl) ?_
      refine lv_iconst (v := 0) hx hb dX1_rebuild_30 (by decide) ?_
      obtain ⟨S2, x4, hk3, h⟩ := ob2_at h
      refine cl_Vi (As := [.int v3, .int (0 : Int32)]) (rest := [.ref (a 3)]) hc k_X4_cornerOf q_382 (c_X4_cornerOf hk3) hP hS (WX_1 a g S) rfl rfl rfl hl (Nat.le_of_ble_eq_true rfl) dX1_rebuild_31 (Nat.le_of_ble_eq_true rfl) (Nat.le_of_ble_eq_true rfl) rfl (fun H locs hP hS => ?_)
      refine lv_aload_n hx hb dX1_rebuild_34 rfl (lv_at hl 1 rfl) ?_
      refine lv_iload_n hx hb dX1_rebuild_35 rfl (lv_at hl 3 rfl) ?_
      refine lv_iconst (v := 1) hx hb dX1_rebuild_36 (by decide) ?_
      obtain ⟨S5, x7, hk6, h⟩ := ob2_at h
      refine cl_Vi (As := [.int v3, .int (1 : Int32)]) (rest := [.int x4, .ref (a 3)]) hc k_X4_cornerOf q_382 (c_X4_cornerOf hk6) hP hS (WX_1 a g S2) rfl rfl rfl hl (Nat.le_of_ble_eq_true rfl) dX1_rebuild_37 (Nat.le_of_ble_eq_true rfl) (Nat.le_of_ble_eq_true rfl) rfl (fun H locs hP hS => ?_)
      obtain ⟨S8, hk9, h⟩ := ob1_at h
      refine cl_Vv (As := [.int x4, .int x7]) (rest := []) hc k_X1_share q_383 (c_X1_share hk9) hP hS (WX_3 a g S5) rfl rfl rfl hl (Nat.le_of_ble_eq_true rfl) dX1_rebuild_40 (Nat.le_of_ble_eq_true rfl) (Nat.le_of_ble_eq_true rfl) rfl (fun H locs hP hS => ?_)
      refine lv_aload_n hx hb dX1_rebuild_43 rfl (lv_at hl 0 rfl) ?_
      refine lv_aload_n hx hb dX1_rebuild_44 rfl (lv_at hl 1 rfl) ?_
      refine lv_iload_n hx hb dX1_rebuild_45 rfl (lv_at hl 3 rfl) ?_
      refine lv_iconst (v := 1) hx hb dX1_rebuild_46 (by decide) ?_
      obtain ⟨S10, x12, hk11, h⟩ := ob2_at h
      refine cl_Vi (As := [.int v3, .int (1 : Int32)]) (rest := [.ref (a 3)]) hc k_X4_cornerOf q_382 (c_X4_cornerOf hk11) hP hS (WX_1 a g S8) rfl rfl rfl hl (Nat.le_of_ble_eq_true rfl) dX1_rebuild_47 (Nat.le_of_ble_eq_true rfl) (Nat.le_of_ble_eq_true rfl) rfl (fun H locs hP hS => ?_)
      refine lv_aload_n hx hb dX1_rebuild_50 rfl (lv_at hl 1 rfl) ?_
      refine lv_iload_n hx hb dX1_rebuild_51 rfl (lv_at hl 3 rfl) ?_
      refine lv_iconst (v := 2) hx hb dX1_rebuild_52 (by decide) ?_
      obtain ⟨S13, x15, hk14, h⟩ := ob2_at h
      refine cl_Vi (As := [.int v3, .int (2 : Int32)]) (rest := [.int x12, .ref (a 3)]) hc k_X4_cornerOf q_382 (c_X4_cornerOf hk14) hP hS (WX_1 a g S10) rfl rfl rfl hl (Nat.le_of_ble_eq_true rfl) dX1_rebuild_53 (Nat.le_of_ble_eq_true rfl) (Nat.le_of_ble_eq_true rfl) rfl (fun H locs hP hS => ?_)
      obtain ⟨S16, hk17, h⟩ := ob1_at h
      refine cl_Vv (As := [.int x12, .int x15]) (rest := []) hc k_X1_share q_383 (c_X1_share hk17) hP hS (WX_3 a g S13) rfl rfl rfl hl (Nat.le_of_ble_eq_true rfl) dX1_rebuild_56 (Nat.le_of_ble_eq_true rfl) (Nat.le_of_ble_eq_true rfl) rfl (fun H locs hP hS => ?_)
      refine lv_aload_n hx hb dX1_rebuild_59 rfl (lv_at hl 0 rfl) ?_
      refine lv_aload_n hx hb dX1_rebuild_60 rfl (lv_at hl 1 rfl) ?_
      refine lv_iload_n hx hb dX1_rebuild_61 rfl (lv_at hl 3 rfl) ?_
      refine lv_iconst (v := 2) hx hb dX1_rebuild_62 (by decide) ?_
      obtain ⟨S18, x20, hk19, h⟩ := ob2_at h
      refine cl_Vi (As := [.int v3, .int (2 : Int32)]) (rest := [.ref (a 3)]) hc k_X4_cornerOf q_382 (c_X4_cornerOf hk19) hP hS (WX_1 a g S16) rfl rfl rfl hl (Nat.le_of_ble_eq_true rfl) dX1_rebuild_63 (Nat.le_of_ble_eq_true rfl) (Nat.le_of_ble_eq_true rfl) rfl (fun H locs hP hS => ?_)
      refine lv_aload_n hx hb dX1_rebuild_66 rfl (lv_at hl 1 rfl) ?_
      refine lv_iload_n hx hb dX1_rebuild_67 rfl (lv_at hl 3 rfl) ?_
      refine lv_iconst (v := 0) hx hb dX1_rebuild_68 (by decide) ?_
      obtain ⟨S21, x23, hk22, h⟩ := ob2_at h
      refine cl_Vi (As := [.int v3, .int (0 : Int32)]) (rest := [.int x20, .ref (a 3)]) hc k_X4_cornerOf q_382 (c_X4_cornerOf hk22) hP hS (WX_1 a g S18) rfl rfl rfl hl (Nat.le_of_ble_eq_true rfl) dX1_rebuild_69 (Nat.le_of_ble_eq_true rfl) (Nat.le_of_ble_eq_true rfl) rfl (fun H locs hP hS => ?_)
      obtain ⟨S24, hk25, h⟩ := ob1_at h
      refine cl_Vv (As := [.int x20, .int x23]) (rest := []) hc k_X1_share q_383 (c_X1_share hk25) hP hS (WX_3 a g S21) rfl rfl rfl hl (Nat.le_of_ble_eq_true rfl) dX1_rebuild_72 (Nat.le_of_ble_eq_true rfl) (Nat.le_of_ble_eq_true rfl) rfl (fun H locs hP hS => ?_)
      obtain ⟨x26, ex26⟩ : ∃ y : Int32, y = v3 + (1 : Int32) := ⟨_, rfl⟩
      replace h := olet_at ex26 h
      refine lv_iinc (v := x26) (lv' := [(3, .int x26), (0, .ref (a 3)), (1, .ref (a 1)), (2, .ref (a 2))]) hx hb dX1_rebuild_75 hl (k := 3) rfl (by rw [ex26]; rfl) (by decide) rfl (fun ls hl => ?_)
      refine lv_goto (tgt := 19) hx hb dX1_rebuild_78 (by decide) ?_
      exact ih S24 x26 h H locs ls hP hS (lv_sub hl [1, 2, 3, 0] rfl)
set_option maxHeartbeats 4000000 in
set_option maxRecDepth 100000 in
theorem t_X1_rebuild {z : St} (hc : Cx p R s m args c D (tysWX g) A (WX a g) cX1_rebuild 5 RX1 4 95) (hr : Rtv p l e R s m args below meth c Q D A (WX a g) cX1_rebuild z) : ∀ (S : St), f_X1_rebuild S = some z → Go p l e R s m args below meth c Q D A (WX a g) 5 S 0 [(0, .ref (a 3)), (1, .ref (a 1)), (2, .ref (a 2))] [] := by
  obtain ⟨⟨hx, hb, hml, hown, hts⟩, -, -, -, hnf, hno⟩ := id hc
  intro S h H locs ls hP hS hl
  rw [f_X1_rebuild] at h
  replace hl : lv_has ls 5 [(0, .ref (a 3)), (1, .ref (a 1)), (2, .ref (a 2))] := hl
  refine lv_aload_n hx hb dX1_rebuild_0 rfl (lv_at hl 0 rfl) ?_
  refine gfWX_Edges_number hc hP q_66 dX1_rebuild_1 ?_
  refine lv_bipush (v := -9) hx hb dX1_rebuild_4 (by decide) ?_
  obtain ⟨S1, hk2, h⟩ := ob1_at h
  refine cl_Sv (As := [.ref (a 19), .int (-9 : Int32)]) (rest := []) hc k_J7_fill_number q_378 (c_J7_fill_number hk2) hP hS rfl hl (Nat.le_of_ble_eq_true rfl) dX1_rebuild_6 (Nat.le_of_ble_eq_true rfl) (Nat.le_of_ble_eq_true rfl) rfl (fun H locs hP hS => ?_)
  refine lv_aload_n hx hb dX1_rebuild_9 rfl (lv_at hl 0 rfl) ?_
  refine gfWX_Edges_shared hc hP q_67 dX1_rebuild_10 ?_
  refine lv_iconst (v := 0) hx hb dX1_rebuild_13 (by decide) ?_
  obtain ⟨S3, hk4, h⟩ := ob1_at h
  refine cl_Sv (As := [.ref (a 20), .int (0 : Int32)]) (rest := []) hc k_J7_fill_shared q_378 (c_J7_fill_shared hk4) hP hS rfl hl (Nat.le_of_ble_eq_true rfl) dX1_rebuild_14 (Nat.le_of_ble_eq_true rfl) (Nat.le_of_ble_eq_true rfl) rfl (fun H locs hP hS => ?_)
  refine lv_iconst (v := 0) hx hb dX1_rebuild_17 (by decide) ?_
  refine lv_istore_n (lv' := [(3, .int (0 : Int32)), (0, .ref (a 3)), (1, .ref (a 1)), (2, .ref (a 2))]) hx hb dX1_rebuild_18 rfl hl (by decide) rfl (fun ls hl => ?_)
  exact t_X1_rebuild_p19 hc hr FU S3 (0 : Int32) h H locs ls hP hS (lv_sub hl [1, 2, 3, 0] rfl)
abbrev rm_X1_rebuild : Room := { frames := 4, cells := 0, slots := 0, locals := 95 }
theorem c_X1_rebuild {l : Launch} {D : va_G} {a : Nat → Nat} {g : Nat → ClassId} {S : St} {z : St} (h : f_X1_rebuild S = some z) : MetV l D (tysWX g) (WX a g) E0 yX1_rebuild cX1_rebuild 5 none rm_X1_rebuild [.ref (a 3), .ref (a 1), .ref (a 2)] S z := mk_v (WX_same a g) (by decide) z (Nat.le_of_ble_eq_true rfl) (fun p e s m args below meth c A Q hc hE hr => t_X1_rebuild hc hr S h)
theorem k_X1_rebuild : CalV RX1 yX1_rebuild cX1_rebuild 5 none rm_X1_rebuild 2 := ⟨q_372, q_373, q_22, q_374, by decide +kernel, rfl, rfl⟩
set_option maxHeartbeats 4000000 in
set_option maxRecDepth 100000 in
theorem t_X1_countAt_p4 {z : St × Int32} (hc : Cx p R s m args c D (tysWX g) A (WX a g) cX1_countAt 4 RX1 0 0) (hr : Rti p l e R s m args below meth c Q D A (WX a g) cX1_countAt z) : ∀ (fu : Nat) (S : St) (v1 : Int32) (v2 : Int32) (v3 : Int32), f_X1_countAt_p4 fu S v1 v2 v3 = some z → Go p l e R s m args below meth c Q D A (WX a g) 4 S 4 [(0, .ref (a 3)), (1, .int v1), (2, .int v2), (3, .int v3)] [] := by
  obtain ⟨⟨hx, hb, hml, hown, hts⟩, -, -, -, hnf, hno⟩ := id hc
  intro fu
  induction fu with
  | zero =>
    intro S v1 v2 v3 h
    rw [f_X1_countAt_p4] at h
    cases h
  | succ fu ih =>
    intro S v1 v2 v3 h H locs ls hP hS hl
    rw [f_X1_countAt_p4] at h
    refine lv_iload_n hx hb dX1_countAt_4 rfl (lv_at hl 3 rfl) ?_
    refine lv_aload_n hx hb dX1_countAt_5 rfl (lv_at hl 0 rfl) ?_
    refine gfWX_Edges_count hc hP q_376 dX1_countAt_6 ?_
    refine lv_icmp_ge (tgt := 41) hx hb dX1_countAt_9 (by decide) (fun hq => ?_) (fun hq => ?_)
    · replace h := if_yes hq h
      refine lv_iload_n hx hb dX1_countAt_41 rfl (lv_at hl 2 rfl) ?_
      obtain rfl := Option.some.inj h
      exact hr _ _ _ _ dX1_countAt_42 hP hS
    · replace h := if_no hq h
      refine lv_aload_n hx hb dX1_countAt_12 rfl (lv_at hl 0 rfl) ?_
      refine gfWX_Edges_low hc hP q_68 dX1_countAt_13 ?_
      refine lv_iload_n hx hb dX1_countAt_16 rfl (lv_at hl 3 rfl) ?_
      obtain ⟨h1, h⟩ := chk_at h
      refine alWX_Edges_low hc hP h1 dX1_countAt_17 ?_
      refine lv_iload_n hx hb dX1_countAt_18 rfl (lv_at hl 1 rfl) ?_
      refine lv_icmp_eq (tgt := 32) hx hb dX1_countAt_19 (by decide) (fun hq => ?_) (fun hq => ?_)
      · replace h := if_yes hq h
        obtain ⟨x2, ex2⟩ : ∃ y : Int32, y = v2 + (1 : Int32) := ⟨_, rfl⟩
        replace h := olet_at ex2 h
        refine lv_iinc (v := x2) (lv' := [(2, .int x2), (0, .ref (a 3)), (1, .int v1), (3, .int v3)]) hx hb dX1_countAt_32 hl (k := 2) rfl (by rw [ex2]; rfl) (by decide) rfl (fun ls hl => ?_)
        obtain ⟨x3, ex3⟩ : ∃ y : Int32, y = v3 + (1 : Int32) := ⟨_, rfl⟩
        replace h := olet_at ex3 h
        refine lv_iinc (v := x3) (lv' := [(3, .int x3), (2, .int x2), (0, .ref (a 3)), (1, .int v1)]) hx hb dX1_countAt_35 hl (k := 3) rfl (by rw [ex3]; rfl) (by decide) rfl (fun ls hl => ?_)
        refine lv_goto (tgt := 4) hx hb dX1_countAt_38 (by decide) ?_
        exact ih S v1 x2 x3 h H locs ls hP hS (lv_sub hl [2, 3, 1, 0] rfl)
      · replace h := if_no hq h
        refine lv_aload_n hx hb dX1_countAt_22 rfl (lv_at hl 0 rfl) ?_
        refine gfWX_Edges_high hc hP q_69 dX1_countAt_23 ?_
        refine lv_iload_n hx hb dX1_countAt_26 rfl (lv_at hl 3 rfl) ?_
        obtain ⟨h4, h⟩ := chk_at h
        refine alWX_Edges_high hc hP h4 dX1_countAt_27 ?_
        refine lv_iload_n hx hb dX1_countAt_28 rfl (lv_at hl 1 rfl) ?_
        refine lv_icmp_ne (tgt := 35) hx hb dX1_countAt_29 (by decide) (fun hq => ?_) (fun hq => ?_)
        · replace h := if_no hq h
          obtain ⟨x5, ex5⟩ : ∃ y : Int32, y = v3 + (1 : Int32) := ⟨_, rfl⟩
          replace h := olet_at ex5 h
          refine lv_iinc (v := x5) (lv' := [(3, .int x5), (0, .ref (a 3)), (1, .int v1), (2, .int v2)]) hx hb dX1_countAt_35 hl (k := 3) rfl (by rw [ex5]; rfl) (by decide) rfl (fun ls hl => ?_)
          refine lv_goto (tgt := 4) hx hb dX1_countAt_38 (by decide) ?_
          exact ih S v1 v2 x5 h H locs ls hP hS (lv_sub hl [1, 2, 3, 0] rfl)
        · replace h := if_yes hq h
          obtain ⟨x6, ex6⟩ : ∃ y : Int32, y = v2 + (1 : Int32) := ⟨_, rfl⟩
          replace h := olet_at ex6 h
          refine lv_iinc (v := x6) (lv' := [(2, .int x6), (0, .ref (a 3)), (1, .int v1), (3, .int v3)]) hx hb dX1_countAt_32 hl (k := 2) rfl (by rw [ex6]; rfl) (by decide) rfl (fun ls hl => ?_)
          obtain ⟨x7, ex7⟩ : ∃ y : Int32, y = v3 + (1 : Int32) := ⟨_, rfl⟩
          replace h := olet_at ex7 h
          refine lv_iinc (v := x7) (lv' := [(3, .int x7), (2, .int x6), (0, .ref (a 3)), (1, .int v1)]) hx hb dX1_countAt_35 hl (k := 3) rfl (by rw [ex7]; rfl) (by decide) rfl (fun ls hl => ?_)
          refine lv_goto (tgt := 4) hx hb dX1_countAt_38 (by decide) ?_
          exact ih S v1 x6 x7 h H locs ls hP hS (lv_sub hl [2, 3, 1, 0] rfl)
set_option maxHeartbeats 4000000 in
set_option maxRecDepth 100000 in
theorem t_X1_countAt {z : St × Int32} (hc : Cx p R s m args c D (tysWX g) A (WX a g) cX1_countAt 4 RX1 0 0) (hr : Rti p l e R s m args below meth c Q D A (WX a g) cX1_countAt z) : ∀ (S : St) (v1 : Int32), f_X1_countAt S v1 = some z → Go p l e R s m args below meth c Q D A (WX a g) 4 S 0 [(0, .ref (a 3)), (1, .int v1)] [] := by
  obtain ⟨⟨hx, hb, hml, hown, hts⟩, -, -, -, hnf, hno⟩ := id hc
  intro S v1 h H locs ls hP hS hl
  rw [f_X1_countAt] at h
  replace hl : lv_has ls 4 [(0, .ref (a 3)), (1, .int v1)] := hl
  refine lv_iconst (v := 0) hx hb dX1_countAt_0 (by decide) ?_
  refine lv_istore_n (lv' := [(2, .int (0 : Int32)), (0, .ref (a 3)), (1, .int v1)]) hx hb dX1_countAt_1 rfl hl (by decide) rfl (fun ls hl => ?_)
  refine lv_iconst (v := 0) hx hb dX1_countAt_2 (by decide) ?_
  refine lv_istore_n (lv' := [(3, .int (0 : Int32)), (2, .int (0 : Int32)), (0, .ref (a 3)), (1, .int v1)]) hx hb dX1_countAt_3 rfl hl (by decide) rfl (fun ls hl => ?_)
  exact t_X1_countAt_p4 hc hr FU S v1 (0 : Int32) (0 : Int32) h H locs ls hP hS (lv_sub hl [2, 3, 1, 0] rfl)
abbrev rm_X1_countAt : Room := { frames := 0, cells := 0, slots := 0, locals := 0 }
theorem c_X1_countAt {l : Launch} {D : va_G} {a : Nat → Nat} {g : Nat → ClassId} {S : St} {v1 : Int32} {z : St × Int32} (h : f_X1_countAt S v1 = some z) : MetI l D (tysWX g) (WX a g) E0 yX1_countAt cX1_countAt 4 (some .int) rm_X1_countAt [.ref (a 3), .int v1] S z := mk_i (WX_same a g) (by decide) z (Nat.le_of_ble_eq_true rfl) (fun p e s m args below meth c A Q hc hE hr => t_X1_countAt hc hr S v1 h)
theorem k_X1_countAt : CalV RX1 yX1_countAt cX1_countAt 4 (some .int) rm_X1_countAt 1 := ⟨q_532, q_533, q_22, q_534, by decide +kernel, rfl, rfl⟩
set_option maxHeartbeats 4000000 in
set_option maxRecDepth 100000 in
theorem t_X1_has {z : St × Int32} (hc : Cx p R s m args c D (tysWX g) A (WX a g) cX1_has 2 RX1 0 0) (hr : Rtz p l e R s m args below meth c Q D A (WX a g) cX1_has z) : ∀ (S : St) (v1 : Int32), f_X1_has S v1 = some z → Go p l e R s m args below meth c Q D A (WX a g) 2 S 0 [(0, .ref (a 3)), (1, .int v1)] [] := by
  obtain ⟨⟨hx, hb, hml, hown, hts⟩, -, -, -, hnf, hno⟩ := id hc
  intro S v1 h H locs ls hP hS hl
  rw [f_X1_has] at h
  replace hl : lv_has ls 2 [(0, .ref (a 3)), (1, .int v1)] := hl
  refine lv_iload_n hx hb dX1_has_0 rfl (lv_at hl 1 rfl) ?_
  refine lv_if_lt (tgt := 16) hx hb dX1_has_1 (by decide) (fun hq => ?_) (fun hq => ?_)
  · replace h := if_yes hq h
    refine lv_iconst (v := 0) hx hb dX1_has_16 (by decide) ?_
    obtain rfl := Option.some.inj h
    exact hr (Or.inl rfl) _ _ _ _ dX1_has_17 hP hS
  · replace h := if_no hq h
    refine lv_iload_n hx hb dX1_has_4 rfl (lv_at hl 1 rfl) ?_
    refine lv_aload_n hx hb dX1_has_5 rfl (lv_at hl 0 rfl) ?_
    refine gfWX_Edges_count hc hP q_376 dX1_has_6 ?_
    refine lv_icmp_ge (tgt := 16) hx hb dX1_has_9 (by decide) (fun hq => ?_) (fun hq => ?_)
    · replace h := if_yes hq h
      refine lv_iconst (v := 0) hx hb dX1_has_16 (by decide) ?_
      obtain rfl := Option.some.inj h
      exact hr (Or.inl rfl) _ _ _ _ dX1_has_17 hP hS
    · replace h := if_no hq h
      refine lv_iconst (v := 1) hx hb dX1_has_12 (by decide) ?_
      refine lv_goto (tgt := 17) hx hb dX1_has_13 (by decide) ?_
      obtain rfl := Option.some.inj h
      exact hr (Or.inr rfl) _ _ _ _ dX1_has_17 hP hS
abbrev rm_X1_has : Room := { frames := 0, cells := 0, slots := 0, locals := 0 }
theorem c_X1_has {l : Launch} {D : va_G} {a : Nat → Nat} {g : Nat → ClassId} {S : St} {v1 : Int32} {z : St × Int32} (h : f_X1_has S v1 = some z) : MetI l D (tysWX g) (WX a g) E0 yX1_has cX1_has 2 (some .boolean) rm_X1_has [.ref (a 3), .int v1] S z := mk_z (WX_same a g) (by decide) z (Nat.le_of_ble_eq_true rfl) (fun p e s m args below meth c A Q hc hE hr => t_X1_has hc hr S v1 h)
theorem k_X1_has : CalV RX1 yX1_has cX1_has 2 (some .boolean) rm_X1_has 1 := ⟨q_659, q_660, q_22, q_661, by decide +kernel, rfl, rfl⟩
set_option maxHeartbeats 4000000 in
set_option maxRecDepth 100000 in
theorem t_X1_between {z : St × Int32} (hc : Cx p R s m args c D (tysWX g) A (WX a g) cX1_between 3 RX1 0 0) (hr : Rti p l e R s m args below meth c Q D A (WX a g) cX1_between z) : ∀ (S : St) (v1 : Int32) (v2 : Int32), f_X1_between S v1 v2 = some z → Go p l e R s m args below meth c Q D A (WX a g) 3 S 0 [(0, .ref (a 3)), (1, .int v1), (2, .int v2)] [] := by
  obtain ⟨⟨hx, hb, hml, hown, hts⟩, -, -, -, hnf, hno⟩ := id hc
  intro S v1 v2 h H locs ls hP hS hl
  rw [f_X1_between] at h
  replace hl : lv_has ls 3 [(0, .ref (a 3)), (1, .int v1), (2, .int v2)] := hl
  refine lv_aload_n hx hb dX1_between_0 rfl (lv_at hl 0 rfl) ?_
  refine gfWX_Edges_number hc hP q_66 dX1_between_1 ?_
  refine lv_iload_n hx hb dX1_between_4 rfl (lv_at hl 1 rfl) ?_
  refine lv_bipush (v := 16) hx hb dX1_between_5 (by decide) ?_
  refine lv_imul hx hb dX1_between_7 ?_
  refine lv_iload_n hx hb dX1_between_8 rfl (lv_at hl 2 rfl) ?_
  refine lv_iadd hx hb dX1_between_9 ?_
  obtain ⟨h1, h⟩ := chk_at h
  refine alWX_Edges_number hc hP h1 dX1_between_10 ?_
  obtain rfl := Option.some.inj h
  exact hr _ _ _ _ dX1_between_11 hP hS
abbrev rm_X1_between : Room := { frames := 0, cells := 0, slots := 0, locals := 0 }
theorem c_X1_between {l : Launch} {D : va_G} {a : Nat → Nat} {g : Nat → ClassId} {S : St} {v1 : Int32} {v2 : Int32} {z : St × Int32} (h : f_X1_between S v1 v2 = some z) : MetI l D (tysWX g) (WX a g) E0 yX1_between cX1_between 3 (some .int) rm_X1_between [.ref (a 3), .int v1, .int v2] S z := mk_i (WX_same a g) (by decide) z (Nat.le_of_ble_eq_true rfl) (fun p e s m args below meth c A Q hc hE hr => t_X1_between hc hr S v1 v2 h)
theorem k_X1_between : CalV RX1 yX1_between cX1_between 3 (some .int) rm_X1_between 2 := ⟨q_682, q_683, q_22, q_684, by decide +kernel, rfl, rfl⟩
set_option maxHeartbeats 4000000 in
set_option maxRecDepth 100000 in
theorem t_X1_countSort_p4 {z : St × Int32} (hc : Cx p R s m args c D (tysWX g) A (WX a g) cX1_countSort 4 RX1 0 0) (hr : Rti p l e R s m args below meth c Q D A (WX a g) cX1_countSort z) : ∀ (fu : Nat) (S : St) (v1 : Int32) (v2 : Int32) (v3 : Int32), f_X1_countSort_p4 fu S v1 v2 v3 = some z → Go p l e R s m args below meth c Q D A (WX a g) 4 S 4 [(0, .ref (a 3)), (1, .int v1), (2, .int v2), (3, .int v3)] [] := by
  obtain ⟨⟨hx, hb, hml, hown, hts⟩, -, -, -, hnf, hno⟩ := id hc
  intro fu
  induction fu with
  | zero =>
    intro S v1 v2 v3 h
    rw [f_X1_countSort_p4] at h
    cases h
  | succ fu ih =>
    intro S v1 v2 v3 h H locs ls hP hS hl
    rw [f_X1_countSort_p4] at h
    refine lv_iload_n hx hb dX1_countSort_4 rfl (lv_at hl 3 rfl) ?_
    refine lv_aload_n hx hb dX1_countSort_5 rfl (lv_at hl 0 rfl) ?_
    refine gfWX_Edges_count hc hP q_376 dX1_countSort_6 ?_
    refine lv_icmp_ge (tgt := 31) hx hb dX1_countSort_9 (by decide) (fun hq => ?_) (fun hq => ?_)
    · replace h := if_yes hq h
      refine lv_iload_n hx hb dX1_countSort_31 rfl (lv_at hl 2 rfl) ?_
      obtain rfl := Option.some.inj h
      exact hr _ _ _ _ dX1_countSort_32 hP hS
    · replace h := if_no hq h
      refine lv_aload_n hx hb dX1_countSort_12 rfl (lv_at hl 0 rfl) ?_
      refine gfWX_Edges_sort hc hP q_71 dX1_countSort_13 ?_
      refine lv_iload_n hx hb dX1_countSort_16 rfl (lv_at hl 3 rfl) ?_
      obtain ⟨h1, h⟩ := chk_at h
      refine alWX_Edges_sort hc hP h1 dX1_countSort_17 ?_
      refine lv_iload_n hx hb dX1_countSort_18 rfl (lv_at hl 1 rfl) ?_
      refine lv_icmp_ne (tgt := 25) hx hb dX1_countSort_19 (by decide) (fun hq => ?_) (fun hq => ?_)
      · replace h := if_no hq h
        obtain ⟨x2, ex2⟩ : ∃ y : Int32, y = v3 + (1 : Int32) := ⟨_, rfl⟩
        replace h := olet_at ex2 h
        refine lv_iinc (v := x2) (lv' := [(3, .int x2), (0, .ref (a 3)), (1, .int v1), (2, .int v2)]) hx hb dX1_countSort_25 hl (k := 3) rfl (by rw [ex2]; rfl) (by decide) rfl (fun ls hl => ?_)
        refine lv_goto (tgt := 4) hx hb dX1_countSort_28 (by decide) ?_
        exact ih S v1 v2 x2 h H locs ls hP hS (lv_sub hl [1, 2, 3, 0] rfl)
      · replace h := if_yes hq h
        obtain ⟨x3, ex3⟩ : ∃ y : Int32, y = v2 + (1 : Int32) := ⟨_, rfl⟩
        replace h := olet_at ex3 h
        refine lv_iinc (v := x3) (lv' := [(2, .int x3), (0, .ref (a 3)), (1, .int v1), (3, .int v3)]) hx hb dX1_countSort_22 hl (k := 2) rfl (by rw [ex3]; rfl) (by decide) rfl (fun ls hl => ?_)
        obtain ⟨x4, ex4⟩ : ∃ y : Int32, y = v3 + (1 : Int32) := ⟨_, rfl⟩
        replace h := olet_at ex4 h
        refine lv_iinc (v := x4) (lv' := [(3, .int x4), (2, .int x3), (0, .ref (a 3)), (1, .int v1)]) hx hb dX1_countSort_25 hl (k := 3) rfl (by rw [ex4]; rfl) (by decide) rfl (fun ls hl => ?_)
        refine lv_goto (tgt := 4) hx hb dX1_countSort_28 (by decide) ?_
        exact ih S v1 x3 x4 h H locs ls hP hS (lv_sub hl [2, 3, 1, 0] rfl)
set_option maxHeartbeats 4000000 in
set_option maxRecDepth 100000 in
theorem t_X1_countSort {z : St × Int32} (hc : Cx p R s m args c D (tysWX g) A (WX a g) cX1_countSort 4 RX1 0 0) (hr : Rti p l e R s m args below meth c Q D A (WX a g) cX1_countSort z) : ∀ (S : St) (v1 : Int32), f_X1_countSort S v1 = some z → Go p l e R s m args below meth c Q D A (WX a g) 4 S 0 [(0, .ref (a 3)), (1, .int v1)] [] := by
  obtain ⟨⟨hx, hb, hml, hown, hts⟩, -, -, -, hnf, hno⟩ := id hc
  intro S v1 h H locs ls hP hS hl
  rw [f_X1_countSort] at h
  replace hl : lv_has ls 4 [(0, .ref (a 3)), (1, .int v1)] := hl
  refine lv_iconst (v := 0) hx hb dX1_countSort_0 (by decide) ?_
  refine lv_istore_n (lv' := [(2, .int (0 : Int32)), (0, .ref (a 3)), (1, .int v1)]) hx hb dX1_countSort_1 rfl hl (by decide) rfl (fun ls hl => ?_)
  refine lv_iconst (v := 0) hx hb dX1_countSort_2 (by decide) ?_
  refine lv_istore_n (lv' := [(3, .int (0 : Int32)), (2, .int (0 : Int32)), (0, .ref (a 3)), (1, .int v1)]) hx hb dX1_countSort_3 rfl hl (by decide) rfl (fun ls hl => ?_)
  exact t_X1_countSort_p4 hc hr FU S v1 (0 : Int32) (0 : Int32) h H locs ls hP hS (lv_sub hl [2, 3, 1, 0] rfl)
abbrev rm_X1_countSort : Room := { frames := 0, cells := 0, slots := 0, locals := 0 }
theorem c_X1_countSort {l : Launch} {D : va_G} {a : Nat → Nat} {g : Nat → ClassId} {S : St} {v1 : Int32} {z : St × Int32} (h : f_X1_countSort S v1 = some z) : MetI l D (tysWX g) (WX a g) E0 yX1_countSort cX1_countSort 4 (some .int) rm_X1_countSort [.ref (a 3), .int v1] S z := mk_i (WX_same a g) (by decide) z (Nat.le_of_ble_eq_true rfl) (fun p e s m args below meth c A Q hc hE hr => t_X1_countSort hc hr S v1 h)
theorem k_X1_countSort : CalV RX1 yX1_countSort cX1_countSort 4 (some .int) rm_X1_countSort 1 := ⟨q_821, q_822, q_22, q_823, by decide +kernel, rfl, rfl⟩
end W
