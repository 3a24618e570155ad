section W
variable {p : Program} {l : Launch} {e : Env} {R : Room} {s : State} {m : MethodId} {args : Array Value} {below : List Frame} {meth : Method} {c : Code} {Q : State → Prop} {D : va_G} {A : Nat → Prop} {a : Nat → Nat} {g : Nat → ClassId}
set_option maxHeartbeats 4000000 in
set_option maxRecDepth 100000 in
theorem t_X3_areOpposite_p8 {z : SZ × Int} (hc : Cx p R s m args c D (tysWX g) A (WX a g) cX3_areOpposite 2 RX3 0 0) (hr : Rtz p l e R s m args below meth c Q D A (WX a g) cX3_areOpposite (em z.1, Int32.ofInt z.2)) : ∀ (S : SZ) (v0 : Int) (v1 : Int), f_X3_areOpposite_p8 S v0 v1 = some z → Go p l e R s m args below meth c Q D A (WX a g) 2 (em S) 8 [(0, .int (Int32.ofInt v0)), (1, .int (Int32.ofInt v1))] [] := by
  obtain ⟨⟨hx, hb, hml, hown, hts⟩, -, -, -, hnf, hno⟩ := id hc
  intro S v0 v1 h H locs ls hP hS hl
  rw [f_X3_areOpposite_p8] at h
  refine lv_iload_n hx hb dX3_areOpposite_8 rfl (lv_at hl 0 rfl) ?_
  obtain ⟨h1, h⟩ := chk_at h
  refine z_if_ge (tgt := 20) hx hb h1 dX3_areOpposite_9 (by decide) (fun hq => ?_) (fun hq => ?_)
  · replace h := if_yes hq h
    refine lv_iconst (v := Int32.ofInt (0 : Int)) hx hb dX3_areOpposite_20 (by decide) ?_
    obtain rfl := Option.some.inj h
    exact hr (bit_of (Or.inl rfl)) _ _ _ _ dX3_areOpposite_21 hP hS
  · replace h := if_no hq h
    refine lv_iload_n hx hb dX3_areOpposite_12 rfl (lv_at hl 1 rfl) ?_
    obtain ⟨h2, h⟩ := chk_at h
    refine z_if_le (tgt := 20) hx hb h2 dX3_areOpposite_13 (by decide) (fun hq => ?_) (fun hq => ?_)
    · replace h := if_yes hq h
      refine lv_iconst (v := Int32.ofInt (0 : Int)) hx hb dX3_areOpposite_20 (by decide) ?_
      obtain rfl := Option.some.inj h
      exact hr (bit_of (Or.inl rfl)) _ _ _ _ dX3_areOpposite_21 hP hS
    · replace h := if_no hq h
      refine lv_iconst (v := Int32.ofInt (1 : Int)) hx hb dX3_areOpposite_16 (by decide) ?_
      refine lv_goto (tgt := 21) hx hb dX3_areOpposite_17 (by decide) ?_
      obtain rfl := Option.some.inj h
      exact hr (bit_of (Or.inr rfl)) _ _ _ _ dX3_areOpposite_21 hP hS
set_option maxHeartbeats 4000000 in
set_option maxRecDepth 100000 in
theorem t_X3_areOpposite {z : SZ × Int} (hc : Cx p R s m args c D (tysWX g) A (WX a g) cX3_areOpposite 2 RX3 0 0) (hr : Rtz p l e R s m args below meth c Q D A (WX a g) cX3_areOpposite (em z.1, Int32.ofInt z.2)) : ∀ (S : SZ) (v0 : Int) (v1 : Int), f_X3_areOpposite S v0 v1 = some z → Go p l e R s m args below meth c Q D A (WX a g) 2 (em S) 0 [(0, .int (Int32.ofInt v0)), (1, .int (Int32.ofInt v1))] [] := by
  obtain ⟨⟨hx, hb, hml, hown, hts⟩, -, -, -, hnf, hno⟩ := id hc
  intro S v0 v1 h H locs ls hP hS hl
  rw [f_X3_areOpposite] at h
  replace hl : lv_has ls 2 [(0, .int (Int32.ofInt v0)), (1, .int (Int32.ofInt v1))] := hl
  refine lv_iload_n hx hb dX3_areOpposite_0 rfl (lv_at hl 0 rfl) ?_
  obtain ⟨h1, h⟩ := chk_at h
  refine z_if_le (tgt := 8) hx hb h1 dX3_areOpposite_1 (by decide) (fun hq => ?_) (fun hq => ?_)
  · replace h := if_yes hq h
    exact t_X3_areOpposite_p8 hc hr S v0 v1 h H locs ls hP hS (lv_sub hl [0, 1] rfl)
  · replace h := if_no hq h
    refine lv_iload_n hx hb dX3_areOpposite_4 rfl (lv_at hl 1 rfl) ?_
    obtain ⟨h2, h⟩ := chk_at h
    refine z_if_lt (tgt := 16) hx hb h2 dX3_areOpposite_5 (by decide) (fun hq => ?_) (fun hq => ?_)
    · replace h := if_yes hq h
      refine lv_iconst (v := Int32.ofInt (1 : Int)) hx hb dX3_areOpposite_16 (by decide) ?_
      refine lv_goto (tgt := 21) hx hb dX3_areOpposite_17 (by decide) ?_
      obtain rfl := Option.some.inj h
      exact hr (bit_of (Or.inr rfl)) _ _ _ _ dX3_areOpposite_21 hP hS
    · replace h := if_no hq h
      exact t_X3_areOpposite_p8 hc hr S v0 v1 h H locs ls hP hS (lv_sub hl [0, 1] rfl)
abbrev rm_X3_areOpposite : Room := { frames := 0, cells := 0, slots := 0, locals := 0 }
theorem c_X3_areOpposite {l : Launch} {D : va_G} {a : Nat → Nat} {g : Nat → ClassId} {S : SZ} {v0 : Int} {v1 : Int} {Z1 : SZ} {r1 : Int} (h : f_X3_areOpposite S v0 v1 = some (Z1, r1)) : MetI l D (tysWX g) (WX a g) E0 yX3_areOpposite cX3_areOpposite 2 (some .boolean) rm_X3_areOpposite [.int (Int32.ofInt v0), .int (Int32.ofInt v1)] (em S) (em Z1, Int32.ofInt r1) := mk_z (WX_same a g) (by decide) (em Z1, Int32.ofInt r1) (Nat.le_of_ble_eq_true rfl) (fun p e s m args below meth c A Q hc hE hr => t_X3_areOpposite (z := (Z1, r1)) hc hr S v0 v1 h)
theorem k_X3_areOpposite : CalS yX3_areOpposite cX3_areOpposite 2 (some .boolean) rm_X3_areOpposite 2 := ⟨q_750, q_38, q_751, by decide +kernel, rfl, rfl⟩
set_option maxHeartbeats 4000000 in
set_option maxRecDepth 100000 in
theorem t_X3_find {z : SZ × Int} (hc : Cx p R s m args c D (tysWX g) A (WX a g) cX3_find 13 RX3 1 23) (hr : Rtz p l e R s m args below meth c Q D A (WX a g) cX3_find (em z.1, Int32.ofInt z.2)) : ∀ (S : SZ) (v1 : Int) (v2 : Int), f_X3_find S v1 v2 = some z → Go p l e R s m args below meth c Q D A (WX a g) 13 (em S) 0 [(0, .ref (a 7)), (1, .int (Int32.ofInt v1)), (2, .int (Int32.ofInt v2)), (3, .ref (a 3)), (4, .ref (a 2))] [] := by
  obtain ⟨⟨hx, hb, hml, hown, hts⟩, -, -, -, hnf, hno⟩ := id hc
  intro S v1 v2 h H locs ls hP hS hl
  rw [f_X3_find] at h
  replace hl : lv_has ls 13 [(0, .ref (a 7)), (1, .int (Int32.ofInt v1)), (2, .int (Int32.ofInt v2)), (3, .ref (a 3)), (4, .ref (a 2))] := hl
  refine lv_aload_n hx hb dX3_find_0 rfl (lv_at hl 3 rfl) ?_
  refine gfWX_Edges_low hc hP q_740 dX3_find_1 ?_
  refine lv_iload_n hx hb dX3_find_4 rfl (lv_at hl 1 rfl) ?_
  obtain ⟨h1, h⟩ := chk_at h
  refine azWX_Edges_low hc hP h1 dX3_find_5 ?_
  refine z_topi (fun x2 ex2 => ?_)
  replace h := olet_at ex2 h
  refine lv_istore (lv' := [(5, .int (Int32.ofInt x2)), (0, .ref (a 7)), (1, .int (Int32.ofInt v1)), (2, .int (Int32.ofInt v2)), (3, .ref (a 3)), (4, .ref (a 2))]) hx hb dX3_find_6 hl (by decide) rfl (fun ls hl => ?_)
  refine lv_aload_n hx hb dX3_find_8 rfl (lv_at hl 4 rfl) ?_
  refine gfWX_Edges_high hc hP q_741 dX3_find_9 ?_
  refine lv_iload_n hx hb dX3_find_12 rfl (lv_at hl 2 rfl) ?_
  refine azWX_Edges_high hc hP h1 dX3_find_13 ?_
  refine z_topi (fun x3 ex3 => ?_)
  replace h := olet_at ex3 h
  refine lv_istore (lv' := [(6, .int (Int32.ofInt x3)), (5, .int (Int32.ofInt x2)), (0, .ref (a 7)), (1, .int (Int32.ofInt v1)), (2, .int (Int32.ofInt v2)), (3, .ref (a 3)), (4, .ref (a 2))]) hx hb dX3_find_14 hl (by decide) rfl (fun ls hl => ?_)
  refine lv_aload_n hx hb dX3_find_16 rfl (lv_at hl 5 rfl) ?_
  refine gfWX_Edges_low hc hP q_740 dX3_find_17 ?_
  refine lv_iload_n hx hb dX3_find_20 rfl (lv_at hl 4 rfl) ?_
  obtain ⟨h4, h⟩ := chk_at h
  refine azWX_Edges_low hc hP h4 dX3_find_21 ?_
  refine z_topi (fun x5 ex5 => ?_)
  replace h := olet_at ex5 h
  refine lv_istore (lv' := [(7, .int (Int32.ofInt x5)), (6, .int (Int32.ofInt x3)), (5, .int (Int32.ofInt x2)), (0, .ref (a 7)), (1, .int (Int32.ofInt v1)), (2, .int (Int32.ofInt v2)), (3, .ref (a 3)), (4, .ref (a 2))]) hx hb dX3_find_22 hl (by decide) rfl (fun ls hl => ?_)
  refine lv_aload_n hx hb dX3_find_24 rfl (lv_at hl 6 rfl) ?_
  refine gfWX_Edges_high hc hP q_741 dX3_find_25 ?_
  refine lv_iload_n hx hb dX3_find_28 rfl (lv_at hl 5 rfl) ?_
  refine azWX_Edges_high hc hP h4 dX3_find_29 ?_
  refine z_topi (fun x6 ex6 => ?_)
  replace h := olet_at ex6 h
  refine lv_istore (lv' := [(8, .int (Int32.ofInt x6)), (7, .int (Int32.ofInt x5)), (6, .int (Int32.ofInt x3)), (5, .int (Int32.ofInt x2)), (0, .ref (a 7)), (1, .int (Int32.ofInt v1)), (2, .int (Int32.ofInt v2)), (3, .ref (a 3)), (4, .ref (a 2))]) hx hb dX3_find_30 hl (by decide) rfl (fun ls hl => ?_)
  refine lv_aload hx hb dX3_find_32 (lv_at hl 8 rfl) ?_
  refine lv_iload hx hb dX3_find_34 (lv_at hl 1 rfl) ?_
  refine lv_iload hx hb dX3_find_36 (lv_at hl 0 rfl) ?_
  refine lv_iload hx hb dX3_find_38 (lv_at hl 3 rfl) ?_
  obtain ⟨S7, x9, hk8, h⟩ := ob2_at h
  refine cl_Vi (As := [.int (Int32.ofInt x5), .int (Int32.ofInt x6), .int (Int32.ofInt x2)]) (rest := []) hc k_X6_turnOf q_748 (c_X6_turnOf hk8) hP hS (WX_2 a g (em S)) rfl rfl rfl hl (Nat.le_of_ble_eq_true rfl) dX3_find_40 (Nat.le_of_ble_eq_true rfl) (Nat.le_of_ble_eq_true rfl) rfl (fun H locs hP hS => ?_)
  refine lv_istore (lv' := [(9, .int (Int32.ofInt x9)), (8, .int (Int32.ofInt x6)), (7, .int (Int32.ofInt x5)), (6, .int (Int32.ofInt x3)), (5, .int (Int32.ofInt x2)), (0, .ref (a 7)), (1, .int (Int32.ofInt v1)), (2, .int (Int32.ofInt v2)), (3, .ref (a 3)), (4, .ref (a 2))]) hx hb dX3_find_43 hl (by decide) rfl (fun ls hl => ?_)
  refine lv_aload hx hb dX3_find_45 (lv_at hl 9 rfl) ?_
  refine lv_iload hx hb dX3_find_47 (lv_at hl 2 rfl) ?_
  refine lv_iload hx hb dX3_find_49 (lv_at hl 1 rfl) ?_
  refine lv_iload hx hb dX3_find_51 (lv_at hl 3 rfl) ?_
  obtain ⟨S10, x12, hk11, h⟩ := ob2_at h
  refine cl_Vi (As := [.int (Int32.ofInt x5), .int (Int32.ofInt x6), .int (Int32.ofInt x3)]) (rest := []) hc k_X6_turnOf q_748 (c_X6_turnOf hk11) hP hS (WX_2 a g (em S7)) rfl rfl rfl hl (Nat.le_of_ble_eq_true rfl) dX3_find_53 (Nat.le_of_ble_eq_true rfl) (Nat.le_of_ble_eq_true rfl) rfl (fun H locs hP hS => ?_)
  refine lv_istore (lv' := [(10, .int (Int32.ofInt x12)), (9, .int (Int32.ofInt x9)), (8, .int (Int32.ofInt x6)), (7, .int (Int32.ofInt x5)), (6, .int (Int32.ofInt x3)), (5, .int (Int32.ofInt x2)), (0, .ref (a 7)), (1, .int (Int32.ofInt v1)), (2, .int (Int32.ofInt v2)), (3, .ref (a 3)), (4, .ref (a 2))]) hx hb dX3_find_56 hl (by decide) rfl (fun ls hl => ?_)
  refine lv_iload hx hb dX3_find_58 (lv_at hl 1 rfl) ?_
  refine lv_iload hx hb dX3_find_60 (lv_at hl 0 rfl) ?_
  obtain ⟨S13, x15, hk14, h⟩ := ob2_at h
  refine cl_Si (As := [.int (Int32.ofInt x9), .int (Int32.ofInt x12)]) (rest := []) hc k_X3_areOpposite q_749 (c_X3_areOpposite hk14) hP hS rfl hl (Nat.le_of_ble_eq_true rfl) dX3_find_62 (Nat.le_of_ble_eq_true rfl) (Nat.le_of_ble_eq_true rfl) rfl (fun H locs hP hS => ?_)
  obtain ⟨h16, h⟩ := chk_at h
  refine z_if_ne (tgt := 70) hx hb h16 dX3_find_65 (by decide) (fun hq => ?_) (fun hq => ?_)
  · replace h := if_no hq h
    refine lv_aload hx hb dX3_find_70 (lv_at hl 10 rfl) ?_
    refine lv_iload hx hb dX3_find_72 (lv_at hl 5 rfl) ?_
    refine lv_iload hx hb dX3_find_74 (lv_at hl 4 rfl) ?_
    refine lv_iload hx hb dX3_find_76 (lv_at hl 3 rfl) ?_
    obtain ⟨S17, x19, hk18, h⟩ := ob2_at h
    refine cl_Vi (As := [.int (Int32.ofInt x2), .int (Int32.ofInt x3), .int (Int32.ofInt x5)]) (rest := []) hc k_X6_turnOf q_748 (c_X6_turnOf hk18) hP hS (WX_2 a g (em S13)) rfl rfl rfl hl (Nat.le_of_ble_eq_true rfl) dX3_find_78 (Nat.le_of_ble_eq_true rfl) (Nat.le_of_ble_eq_true rfl) rfl (fun H locs hP hS => ?_)
    refine lv_istore (lv' := [(11, .int (Int32.ofInt x19)), (10, .int (Int32.ofInt x12)), (9, .int (Int32.ofInt x9)), (8, .int (Int32.ofInt x6)), (7, .int (Int32.ofInt x5)), (6, .int (Int32.ofInt x3)), (5, .int (Int32.ofInt x2)), (0, .ref (a 7)), (1, .int (Int32.ofInt v1)), (2, .int (Int32.ofInt v2)), (3, .ref (a 3)), (4, .ref (a 2))]) hx hb dX3_find_81 hl (by decide) rfl (fun ls hl => ?_)
    refine lv_aload hx hb dX3_find_83 (lv_at hl 11 rfl) ?_
    refine lv_iload hx hb dX3_find_85 (lv_at hl 6 rfl) ?_
    refine lv_iload hx hb dX3_find_87 (lv_at hl 5 rfl) ?_
    refine lv_iload hx hb dX3_find_89 (lv_at hl 3 rfl) ?_
    obtain ⟨S20, x22, hk21, h⟩ := ob2_at h
    refine cl_Vi (As := [.int (Int32.ofInt x2), .int (Int32.ofInt x3), .int (Int32.ofInt x6)]) (rest := []) hc k_X6_turnOf q_748 (c_X6_turnOf hk21) hP hS (WX_2 a g (em S17)) rfl rfl rfl hl (Nat.le_of_ble_eq_true rfl) dX3_find_91 (Nat.le_of_ble_eq_true rfl) (Nat.le_of_ble_eq_true rfl) rfl (fun H locs hP hS => ?_)
    refine lv_istore (lv' := [(12, .int (Int32.ofInt x22)), (11, .int (Int32.ofInt x19)), (10, .int (Int32.ofInt x12)), (9, .int (Int32.ofInt x9)), (8, .int (Int32.ofInt x6)), (7, .int (Int32.ofInt x5)), (6, .int (Int32.ofInt x3)), (5, .int (Int32.ofInt x2)), (0, .ref (a 7)), (1, .int (Int32.ofInt v1)), (2, .int (Int32.ofInt v2)), (3, .ref (a 3)), (4, .ref (a 2))]) hx hb dX3_find_94 hl (by decide) rfl (fun ls hl => ?_)
    refine lv_iload hx hb dX3_find_96 (lv_at hl 1 rfl) ?_
    refine lv_iload hx hb dX3_find_98 (lv_at hl 0 rfl) ?_
    obtain ⟨S23, x25, hk24, h⟩ := ob2_at h
    refine cl_Si (As := [.int (Int32.ofInt x19), .int (Int32.ofInt x22)]) (rest := []) hc k_X3_areOpposite q_749 (c_X3_areOpposite hk24) hP hS rfl hl (Nat.le_of_ble_eq_true rfl) dX3_find_100 (Nat.le_of_ble_eq_true rfl) (Nat.le_of_ble_eq_true rfl) rfl (fun H locs hP hS => ?_)
    obtain ⟨h26, h⟩ := chk_at h
    refine z_if_ne (tgt := 108) hx hb h26 dX3_find_103 (by decide) (fun hq => ?_) (fun hq => ?_)
    · replace h := if_no hq h
      refine lv_aload_n hx hb dX3_find_108 rfl (lv_at hl 8 rfl) ?_
      refine lv_iload hx hb dX3_find_109 (lv_at hl 3 rfl) ?_
      obtain ⟨h27, h⟩ := chk_at h
      refine z_mabs hx hb (hml.trans hl.1.symm) hown (hts _ q_742) (hts _ q_634) (hts _ q_389) (hts _ q_635) (Nat.le_trans (Nat.le_of_ble_eq_true rfl) hnf) (Nat.le_trans (Nat.le_of_ble_eq_true rfl) hno) h27 dX3_find_111 ?_
      refine pzWX_Meeting_upOnFirst hc hP hS q_743 dX3_find_114 (fun H locs hP hS => ?_)
      obtain ⟨S28, eS28⟩ : ∃ z, z = ui S23 18 (if 0 ≤ x9 then x9 else 0 - x9) := ⟨_, rfl⟩
      replace h := olet_at eS28 h
      rw [← eS28] at hP
      refine lv_aload_n hx hb dX3_find_117 rfl (lv_at hl 8 rfl) ?_
      refine lv_iload hx hb dX3_find_118 (lv_at hl 1 rfl) ?_
      obtain ⟨h29, h⟩ := chk_at h
      refine z_mabs hx hb (hml.trans hl.1.symm) hown (hts _ q_742) (hts _ q_634) (hts _ q_389) (hts _ q_635) (Nat.le_trans (Nat.le_of_ble_eq_true rfl) hnf) (Nat.le_trans (Nat.le_of_ble_eq_true rfl) hno) h29 dX3_find_120 ?_
      refine pzWX_Meeting_upOnSecond hc hP hS q_744 dX3_find_123 (fun H locs hP hS => ?_)
      obtain ⟨S30, eS30⟩ : ∃ z, z = ui S28 19 (if 0 ≤ x19 then x19 else 0 - x19) := ⟨_, rfl⟩
      replace h := olet_at eS30 h
      rw [← eS30] at hP
      refine lv_aload_n hx hb dX3_find_126 rfl (lv_at hl 8 rfl) ?_
      refine lv_iload hx hb dX3_find_127 (lv_at hl 3 rfl) ?_
      refine lv_iload hx hb dX3_find_129 (lv_at hl 2 rfl) ?_
      refine z_isub hx hb dX3_find_131 ?_
      obtain ⟨h31, h⟩ := chk_at h
      refine z_mabs hx hb (hml.trans hl.1.symm) hown (hts _ q_742) (hts _ q_634) (hts _ q_389) (hts _ q_635) (Nat.le_trans (Nat.le_of_ble_eq_true rfl) hnf) (Nat.le_trans (Nat.le_of_ble_eq_true rfl) hno) h31 dX3_find_132 ?_
      refine pzWX_Meeting_down hc hP hS q_745 dX3_find_135 (fun H locs hP hS => ?_)
      obtain ⟨S32, eS32⟩ : ∃ z, z = ui S30 20 (if 0 ≤ (x9 - x12) then (x9 - x12) else 0 - (x9 - x12)) := ⟨_, rfl⟩
      replace h := olet_at eS32 h
      rw [← eS32] at hP
      refine lv_aload_n hx hb dX3_find_138 rfl (lv_at hl 8 rfl) ?_
      refine lv_aload hx hb dX3_find_139 (lv_at hl 12 rfl) ?_
      refine gfWX_Sight_height hc hP q_746 dX3_find_141 ?_
      refine lv_iload hx hb dX3_find_144 (lv_at hl 7 rfl) ?_
      obtain ⟨h33, h⟩ := chk_at h
      refine azWX_Sight_height hc hP h33 dX3_find_146 ?_
      refine lv_aload_n hx hb dX3_find_147 rfl (lv_at hl 8 rfl) ?_
      refine gzWX_Meeting_down hc hP q_745 dX3_find_148 ?_
      refine lv_aload_n hx hb dX3_find_151 rfl (lv_at hl 8 rfl) ?_
      refine gzWX_Meeting_upOnFirst hc hP q_743 dX3_find_152 ?_
      refine z_isub hx hb dX3_find_155 ?_
      refine z_imul hx hb dX3_find_156 ?_
      refine lv_aload hx hb dX3_find_157 (lv_at hl 12 rfl) ?_
      refine gfWX_Sight_height hc hP q_746 dX3_find_159 ?_
      refine lv_iload hx hb dX3_find_162 (lv_at hl 6 rfl) ?_
      obtain ⟨h34, h⟩ := chk_at h
      refine azWX_Sight_height hc hP h34 dX3_find_164 ?_
      refine lv_aload_n hx hb dX3_find_165 rfl (lv_at hl 8 rfl) ?_
      refine gzWX_Meeting_upOnFirst hc hP q_743 dX3_find_166 ?_
      refine z_imul hx hb dX3_find_169 ?_
      refine z_iadd hx hb dX3_find_170 ?_
      refine lv_aload hx hb dX3_find_171 (lv_at hl 12 rfl) ?_
      refine gfWX_Sight_height hc hP q_746 dX3_find_173 ?_
      refine lv_iload hx hb dX3_find_176 (lv_at hl 5 rfl) ?_
      obtain ⟨h35, h⟩ := chk_at h
      refine azWX_Sight_height hc hP h35 dX3_find_178 ?_
      refine lv_aload_n hx hb dX3_find_179 rfl (lv_at hl 8 rfl) ?_
      refine gzWX_Meeting_down hc hP q_745 dX3_find_180 ?_
      refine lv_aload_n hx hb dX3_find_183 rfl (lv_at hl 8 rfl) ?_
      refine gzWX_Meeting_upOnSecond hc hP q_744 dX3_find_184 ?_
      refine z_isub hx hb dX3_find_187 ?_
      refine z_imul hx hb dX3_find_188 ?_
      refine z_isub hx hb dX3_find_189 ?_
      refine lv_aload hx hb dX3_find_190 (lv_at hl 12 rfl) ?_
      refine gfWX_Sight_height hc hP q_746 dX3_find_192 ?_
      refine lv_iload hx hb dX3_find_195 (lv_at hl 4 rfl) ?_
      obtain ⟨h36, h⟩ := chk_at h
      refine azWX_Sight_height hc hP h36 dX3_find_197 ?_
      refine lv_aload_n hx hb dX3_find_198 rfl (lv_at hl 8 rfl) ?_
      refine gzWX_Meeting_upOnSecond hc hP q_744 dX3_find_199 ?_
      refine z_imul hx hb dX3_find_202 ?_
      refine z_isub hx hb dX3_find_203 ?_
      refine pzWX_Meeting_lead hc hP hS q_747 dX3_find_204 (fun H locs hP hS => ?_)
      obtain ⟨S37, eS37⟩ : ∃ z, z = ui S32 21 (((((za S32 9 (x2).toNat) * ((zi S32 20) - (zi S32 18))) + ((za S32 9 (x3).toNat) * (zi S32 18))) - ((za S32 9 (x5).toNat) * ((zi S32 20) - (zi S32 19)))) - ((za S32 9 (x6).toNat) * (zi S32 19))) := ⟨_, rfl⟩
      replace h := olet_at eS37 h
      rw [← eS37] at hP
      refine lv_iconst (v := Int32.ofInt (1 : Int)) hx hb dX3_find_207 (by decide) ?_
      obtain rfl := Option.some.inj h
      exact hr (bit_of (Or.inr rfl)) _ _ _ _ dX3_find_208 hP hS
    · replace h := if_yes hq h
      refine lv_iconst (v := Int32.ofInt (0 : Int)) hx hb dX3_find_106 (by decide) ?_
      obtain rfl := Option.some.inj h
      exact hr (bit_of (Or.inl rfl)) _ _ _ _ dX3_find_107 hP hS
  · replace h := if_yes hq h
    refine lv_iconst (v := Int32.ofInt (0 : Int)) hx hb dX3_find_68 (by decide) ?_
    obtain rfl := Option.some.inj h
    exact hr (bit_of (Or.inl rfl)) _ _ _ _ dX3_find_69 hP hS
abbrev rm_X3_find : Room := { frames := 1, cells := 0, slots := 0, locals := 23 }
theorem c_X3_find {l : Launch} {D : va_G} {a : Nat → Nat} {g : Nat → ClassId} {S : SZ} {v1 : Int} {v2 : Int} {Z1 : SZ} {r1 : Int} (h : f_X3_find S v1 v2 = some (Z1, r1)) : MetI l D (tysWX g) (WX a g) E0 yX3_find cX3_find 13 (some .boolean) rm_X3_find [.ref (a 7), .int (Int32.ofInt v1), .int (Int32.ofInt v2), .ref (a 3), .ref (a 2)] (em S) (em Z1, Int32.ofInt r1) := mk_z (WX_same a g) (by decide) (em Z1, Int32.ofInt r1) (Nat.le_of_ble_eq_true rfl) (fun p e s m args below meth c A Q hc hE hr => t_X3_find (z := (Z1, r1)) hc hr S v1 v2 h)
theorem k_X3_find : CalV RX3 yX3_find cX3_find 13 (some .boolean) rm_X3_find 4 := ⟨q_737, q_738, q_38, q_739, by decide +kernel, rfl, rfl⟩
set_option maxHeartbeats 4000000 in
set_option maxRecDepth 100000 in
theorem t_X3_countAll_p20 {z : SZ × Int} (hc : Cx p R s m args c D (tysWX g) A (WX a g) cX3_countAll 6 RX3 2 55) (hr : Rti p l e R s m args below meth c Q D A (WX a g) cX3_countAll (em z.1, Int32.ofInt z.2)) {k5 : SZ → Int → Int → Option (SZ × Int)} (K5 : ∀ (S : SZ) (v3 : Int) (v4 : Int), k5 S v3 v4 = some z → Go p l e R s m args below meth c Q D A (WX a g) 6 (em S) 5 [(0, .ref (a 7)), (1, .ref (a 3)), (2, .ref (a 2)), (3, .int (Int32.ofInt v3)), (4, .int (Int32.ofInt v4))] []) : ∀ (fu : Nat) (S : SZ) (v3 : Int) (v4 : Int) (v5 : Int), f_X3_countAll_p20 k5 fu S v3 v4 v5 = some z → Go p l e R s m args below meth c Q D A (WX a g) 6 (em S) 20 [(0, .ref (a 7)), (1, .ref (a 3)), (2, .ref (a 2)), (3, .int (Int32.ofInt v3)), (4, .int (Int32.ofInt v4)), (5, .int (Int32.ofInt v5))] [] := by
  obtain ⟨⟨hx, hb, hml, hown, hts⟩, -, -, -, hnf, hno⟩ := id hc
  intro fu
  induction fu with
  | zero =>
    intro S v3 v4 v5 h
    rw [f_X3_countAll_p20] at h
    cases h
  | succ fu ih =>
    intro S v3 v4 v5 h H locs ls hP hS hl
    rw [f_X3_countAll_p20] at h
    refine lv_iload hx hb dX3_countAll_20 (lv_at hl 5 rfl) ?_
    refine lv_aload_n hx hb dX3_countAll_22 rfl (lv_at hl 1 rfl) ?_
    refine gzWX_Edges_count hc hP q_836 dX3_countAll_23 ?_
    obtain ⟨h1, h⟩ := chk_at h
    obtain ⟨h2, h⟩ := chk_at h
    refine z_icmp_ge (tgt := 51) hx hb h1 h2 dX3_countAll_26 (by decide) (fun hq => ?_) (fun hq => ?_)
    · replace h := if_yes hq h
      obtain ⟨x3, ex3⟩ : ∃ y : Int, y = v4 + (1 : Int) := ⟨_, rfl⟩
      replace h := olet_at ex3 h
      refine lv_iinc (v := Int32.ofInt x3) (lv' := [(4, .int (Int32.ofInt x3)), (0, .ref (a 7)), (1, .ref (a 3)), (2, .ref (a 2)), (3, .int (Int32.ofInt v3)), (5, .int (Int32.ofInt v5))]) hx hb dX3_countAll_51 hl (k := 4) rfl (by rw [ex3, Int32.ofInt_add]) (by decide) rfl (fun ls hl => ?_)
      refine lv_goto (tgt := 5) hx hb dX3_countAll_54 (by decide) ?_
      exact K5 S v3 x3 h H locs ls hP hS (lv_sub hl [1, 2, 3, 4, 0] rfl)
    · replace h := if_no hq h
      refine lv_aload_n hx hb dX3_countAll_29 rfl (lv_at hl 0 rfl) ?_
      refine lv_iload hx hb dX3_countAll_30 (lv_at hl 4 rfl) ?_
      refine lv_iload hx hb dX3_countAll_32 (lv_at hl 5 rfl) ?_
      refine lv_aload_n hx hb dX3_countAll_34 rfl (lv_at hl 1 rfl) ?_
      refine lv_aload_n hx hb dX3_countAll_35 rfl (lv_at hl 2 rfl) ?_
      obtain ⟨S4, x6, hk5, h⟩ := ob2_at h
      refine cl_Vi (As := [.int (Int32.ofInt v4), .int (Int32.ofInt v5), .ref (a 3), .ref (a 2)]) (rest := []) hc k_X3_find q_837 (c_X3_find hk5) hP hS (WX_7 a g (em S)) rfl rfl rfl hl (Nat.le_of_ble_eq_true rfl) dX3_countAll_36 (Nat.le_of_ble_eq_true rfl) (Nat.le_of_ble_eq_true rfl) rfl (fun H locs hP hS => ?_)
      obtain ⟨h7, h⟩ := chk_at h
      refine z_if_eq (tgt := 45) hx hb h7 dX3_countAll_39 (by decide) (fun hq => ?_) (fun hq => ?_)
      · replace h := if_yes hq h
        obtain ⟨x8, ex8⟩ : ∃ y : Int, y = v5 + (1 : Int) := ⟨_, rfl⟩
        replace h := olet_at ex8 h
        refine lv_iinc (v := Int32.ofInt x8) (lv' := [(5, .int (Int32.ofInt x8)), (0, .ref (a 7)), (1, .ref (a 3)), (2, .ref (a 2)), (3, .int (Int32.ofInt v3)), (4, .int (Int32.ofInt v4))]) hx hb dX3_countAll_45 hl (k := 5) rfl (by rw [ex8, Int32.ofInt_add]) (by decide) rfl (fun ls hl => ?_)
        refine lv_goto (tgt := 20) hx hb dX3_countAll_48 (by decide) ?_
        exact ih S4 v3 v4 x8 h H locs ls hP hS (lv_sub hl [1, 2, 3, 4, 5, 0] rfl)
      · replace h := if_no hq h
        obtain ⟨x9, ex9⟩ : ∃ y : Int, y = v3 + (1 : Int) := ⟨_, rfl⟩
        replace h := olet_at ex9 h
        refine lv_iinc (v := Int32.ofInt x9) (lv' := [(3, .int (Int32.ofInt x9)), (0, .ref (a 7)), (1, .ref (a 3)), (2, .ref (a 2)), (4, .int (Int32.ofInt v4)), (5, .int (Int32.ofInt v5))]) hx hb dX3_countAll_42 hl (k := 3) rfl (by rw [ex9, Int32.ofInt_add]) (by decide) rfl (fun ls hl => ?_)
        obtain ⟨x10, ex10⟩ : ∃ y : Int, y = v5 + (1 : Int) := ⟨_, rfl⟩
        replace h := olet_at ex10 h
        refine lv_iinc (v := Int32.ofInt x10) (lv' := [(5, .int (Int32.ofInt x10)), (3, .int (Int32.ofInt x9)), (0, .ref (a 7)), (1, .ref (a 3)), (2, .ref (a 2)), (4, .int (Int32.ofInt v4))]) hx hb dX3_countAll_45 hl (k := 5) rfl (by rw [ex10, Int32.ofInt_add]) (by decide) rfl (fun ls hl => ?_)
        refine lv_goto (tgt := 20) hx hb dX3_countAll_48 (by decide) ?_
        exact ih S4 x9 v4 x10 h H locs ls hP hS (lv_sub hl [2, 3, 4, 1, 5, 0] rfl)
set_option maxHeartbeats 4000000 in
set_option maxRecDepth 100000 in
theorem t_X3_countAll_p5 {z : SZ × Int} (hc : Cx p R s m args c D (tysWX g) A (WX a g) cX3_countAll 6 RX3 2 55) (hr : Rti p l e R s m args below meth c Q D A (WX a g) cX3_countAll (em z.1, Int32.ofInt z.2)) : ∀ (fu : Nat) (S : SZ) (v3 : Int) (v4 : Int), f_X3_countAll_p5 fu S v3 v4 = some z → Go p l e R s m args below meth c Q D A (WX a g) 6 (em S) 5 [(0, .ref (a 7)), (1, .ref (a 3)), (2, .ref (a 2)), (3, .int (Int32.ofInt v3)), (4, .int (Int32.ofInt v4))] [] := by
  obtain ⟨⟨hx, hb, hml, hown, hts⟩, -, -, -, hnf, hno⟩ := id hc
  intro fu
  induction fu with
  | zero =>
    intro S v3 v4 h
    rw [f_X3_countAll_p5] at h
    cases h
  | succ fu ih =>
    intro S v3 v4 h H locs ls hP hS hl
    rw [f_X3_countAll_p5] at h
    refine lv_iload hx hb dX3_countAll_5 (lv_at hl 4 rfl) ?_
    refine lv_aload_n hx hb dX3_countAll_7 rfl (lv_at hl 1 rfl) ?_
    refine gzWX_Edges_count hc hP q_836 dX3_countAll_8 ?_
    obtain ⟨h1, h⟩ := chk_at h
    obtain ⟨h2, h⟩ := chk_at h
    refine z_icmp_ge (tgt := 57) hx hb h1 h2 dX3_countAll_11 (by decide) (fun hq => ?_) (fun hq => ?_)
    · replace h := if_yes hq h
      refine lv_iload_n hx hb dX3_countAll_57 rfl (lv_at hl 3 rfl) ?_
      obtain rfl := Option.some.inj h
      exact hr _ _ _ _ dX3_countAll_58 hP hS
    · replace h := if_no hq h
      refine lv_iload hx hb dX3_countAll_14 (lv_at hl 4 rfl) ?_
      refine lv_iconst (v := Int32.ofInt (1 : Int)) hx hb dX3_countAll_16 (by decide) ?_
      refine z_iadd hx hb dX3_countAll_17 ?_
      refine z_topi (fun x3 ex3 => ?_)
      replace h := olet_at ex3 h
      refine lv_istore (lv' := [(5, .int (Int32.ofInt x3)), (0, .ref (a 7)), (1, .ref (a 3)), (2, .ref (a 2)), (3, .int (Int32.ofInt v3)), (4, .int (Int32.ofInt v4))]) hx hb dX3_countAll_18 hl (by decide) rfl (fun ls hl => ?_)
      exact t_X3_countAll_p20 hc hr ih FU S v3 v4 x3 h H locs ls hP hS (lv_sub hl [1, 2, 3, 4, 5, 0] rfl)
set_option maxHeartbeats 4000000 in
set_option maxRecDepth 100000 in
theorem t_X3_countAll {z : SZ × Int} (hc : Cx p R s m args c D (tysWX g) A (WX a g) cX3_countAll 6 RX3 2 55) (hr : Rti p l e R s m args below meth c Q D A (WX a g) cX3_countAll (em z.1, Int32.ofInt z.2)) : ∀ (S : SZ), f_X3_countAll S = some z → Go p l e R s m args below meth c Q D A (WX a g) 6 (em S) 0 [(0, .ref (a 7)), (1, .ref (a 3)), (2, .ref (a 2))] [] := by
  obtain ⟨⟨hx, hb, hml, hown, hts⟩, -, -, -, hnf, hno⟩ := id hc
  intro S h H locs ls hP hS hl
  rw [f_X3_countAll] at h
  replace hl : lv_has ls 6 [(0, .ref (a 7)), (1, .ref (a 3)), (2, .ref (a 2))] := hl
  refine lv_iconst (v := Int32.ofInt (0 : Int)) hx hb dX3_countAll_0 (by decide) ?_
  refine lv_istore_n (lv' := [(3, .int (Int32.ofInt (0 : Int))), (0, .ref (a 7)), (1, .ref (a 3)), (2, .ref (a 2))]) hx hb dX3_countAll_1 rfl hl (by decide) rfl (fun ls hl => ?_)
  refine lv_iconst (v := Int32.ofInt (0 : Int)) hx hb dX3_countAll_2 (by decide) ?_
  refine lv_istore (lv' := [(4, .int (Int32.ofInt (0 : Int))), (3, .int (Int32.ofInt (0 : Int))), (0, .ref (a 7)), (1, .ref (a 3)), (2, .ref (a 2))]) hx hb dX3_countAll_3 hl (by decide) rfl (fun ls hl => ?_)
  exact t_X3_countAll_p5 hc hr FU S (0 : Int) (0 : Int) h H locs ls hP hS (lv_sub hl [2, 3, 4, 1, 0] rfl)
abbrev rm_X3_countAll : Room := { frames := 2, cells := 0, slots := 0, locals := 55 }
theorem c_X3_countAll {l : Launch} {D : va_G} {a : Nat → Nat} {g : Nat → ClassId} {S : SZ} {Z1 : SZ} {r1 : Int} (h : f_X3_countAll S = some (Z1, r1)) : MetI l D (tysWX g) (WX a g) E0 yX3_countAll cX3_countAll 6 (some .int) rm_X3_countAll [.ref (a 7), .ref (a 3), .ref (a 2)] (em S) (em Z1, Int32.ofInt r1) := mk_i (WX_same a g) (by decide) (em Z1, Int32.ofInt r1) (Nat.le_of_ble_eq_true rfl) (fun p e s m args below meth c A Q hc hE hr => t_X3_countAll (z := (Z1, r1)) hc hr S h)
theorem k_X3_countAll : CalV RX3 yX3_countAll cX3_countAll 6 (some .int) rm_X3_countAll 2 := ⟨q_833, q_834, q_38, q_835, by decide +kernel, rfl, rfl⟩
end W
