section W
variable {p : Program} {l : Launch} {e : Env} {R : Room} {s : State} {m : MethodId} {args : Array Value} {below : List Frame} {meth : Method} {c : Code} {Q : State → Prop} {D : va_G} {A : Nat → Prop} {a : Nat → Nat} {g : Nat → ClassId}
set_option maxHeartbeats 4000000 in
set_option maxRecDepth 100000 in
theorem t_X0_unload {z : SZ} (hc : Cx p R s m args c D (tysWX g) A (WX a g) cX0_unload 1 RX0 0 0) (hr : Rtv p l e R s m args below meth c Q D A (WX a g) cX0_unload (em z)) : ∀ (S : SZ), f_X0_unload S = some z → Go p l e R s m args below meth c Q D A (WX a g) 1 (em S) 0 [(0, .ref (a 4))] [] := by
  obtain ⟨⟨hx, hb, hml, hown, hts⟩, -, -, -, hnf, hno⟩ := id hc
  intro S h H locs ls hP hS hl
  rw [f_X0_unload] at h
  replace hl : lv_has ls 1 [(0, .ref (a 4))] := hl
  refine lv_aload_n hx hb dX0_unload_0 rfl (lv_at hl 0 rfl) ?_
  refine lv_bipush (v := Int32.ofInt (-9 : Int)) hx hb dX0_unload_1 (by decide) ?_
  refine pzWX_Cuts_loaded hc hP hS q_78 dX0_unload_3 (fun H locs hP hS => ?_)
  obtain ⟨S1, eS1⟩ : ∃ z, z = ui S 11 (-9 : Int) := ⟨_, rfl⟩
  replace h := olet_at eS1 h
  rw [← eS1] at hP
  obtain rfl := Option.some.inj h
  exact hr _ _ _ _ dX0_unload_6 hP hS
abbrev rm_X0_unload : Room := { frames := 0, cells := 0, slots := 0, locals := 0 }
theorem c_X0_unload {l : Launch} {D : va_G} {a : Nat → Nat} {g : Nat → ClassId} {S : SZ} {z : SZ} (h : f_X0_unload S = some z) : MetV l D (tysWX g) (WX a g) E0 yX0_unload cX0_unload 1 none rm_X0_unload [.ref (a 4)] (em S) (em z) := mk_v (WX_same a g) (by decide) (em z) (Nat.le_of_ble_eq_true rfl) (fun p e s m args below meth c A Q hc hE hr => t_X0_unload (z := z) hc hr S h)
theorem k_X0_unload : CalV RX0 yX0_unload cX0_unload 1 none rm_X0_unload 0 := ⟨q_414, q_415, q_26, q_416, by decide +kernel, rfl, rfl⟩
set_option maxHeartbeats 4000000 in
set_option maxRecDepth 100000 in
theorem t_X0_insert_p64 {z : SZ} (hc : Cx p R s m args c D (tysWX g) A (WX a g) cX0_insert 5 RX0 1 23) (hr : Rtv p l e R s m args below meth c Q D A (WX a g) cX0_insert (em z)) : ∀ (fu : Nat) (S : SZ) (v1 : Int) (v3 : Int) (v4 : Int), f_X0_insert_p64 fu S v1 v3 v4 = some z → Go p l e R s m args below meth c Q D A (WX a g) 5 (em S) 64 [(0, .ref (a 4)), (1, .long (Int64.ofInt v1)), (3, .int (Int32.ofInt v3)), (4, .int (Int32.ofInt v4))] [] := by
  obtain ⟨⟨hx, hb, hml, hown, hts⟩, -, -, -, hnf, hno⟩ := id hc
  intro fu
  induction fu with
  | zero =>
    intro S v1 v3 v4 h
    rw [f_X0_insert_p64] at h
    cases h
  | succ fu ih =>
    intro S v1 v3 v4 h H locs ls hP hS hl
    rw [f_X0_insert_p64] at h
    refine lv_iload hx hb dX0_insert_64 (lv_at hl 3 rfl) ?_
    refine lv_iload_n hx hb dX0_insert_66 rfl (lv_at hl 2 rfl) ?_
    obtain ⟨h1, h⟩ := chk_at h
    obtain ⟨h2, h⟩ := chk_at h
    refine z_icmp_le (tgt := 92) hx hb h1 h2 dX0_insert_67 (by decide) (fun hq => ?_) (fun hq => ?_)
    · replace h := if_yes hq h
      refine lv_aload_n hx hb dX0_insert_92 rfl (lv_at hl 0 rfl) ?_
      refine gfWX_Cuts_at hc hP q_79 dX0_insert_93 ?_
      refine lv_iload_n hx hb dX0_insert_96 rfl (lv_at hl 2 rfl) ?_
      refine lv_lload_n hx hb dX0_insert_97 rfl (lv_at hl 1 rfl) ?_
      obtain ⟨h3, h⟩ := chk_at h
      refine szWX_Cuts_at hc hP hS h3 dX0_insert_98 (fun H locs hP hS => ?_)
      obtain ⟨S4, eS4⟩ : ∃ z, z = ub S 2 (v3).toNat v1 := ⟨_, rfl⟩
      replace h := olet_at eS4 h
      rw [← eS4] at hP
      refine lv_aload_n hx hb dX0_insert_99 rfl (lv_at hl 0 rfl) ?_
      refine lv_dup hx hb dX0_insert_100 rfl ?_
      refine gzWX_Cuts_count hc hP q_433 dX0_insert_101 ?_
      refine lv_iconst (v := Int32.ofInt (1 : Int)) hx hb dX0_insert_104 (by decide) ?_
      refine z_iadd hx hb dX0_insert_105 ?_
      refine pzWX_Cuts_count hc hP hS q_433 dX0_insert_106 (fun H locs hP hS => ?_)
      obtain ⟨S5, eS5⟩ : ∃ z, z = ui S4 12 ((zi S4 12) + (1 : Int)) := ⟨_, rfl⟩
      replace h := olet_at eS5 h
      rw [← eS5] at hP
      obtain rfl := Option.some.inj h
      exact hr _ _ _ _ dX0_insert_109 hP hS
    · replace h := if_no hq h
      refine lv_aload_n hx hb dX0_insert_70 rfl (lv_at hl 0 rfl) ?_
      refine gfWX_Cuts_at hc hP q_79 dX0_insert_71 ?_
      refine lv_iload hx hb dX0_insert_74 (lv_at hl 3 rfl) ?_
      refine lv_aload_n hx hb dX0_insert_76 rfl (lv_at hl 0 rfl) ?_
      refine gfWX_Cuts_at hc hP q_79 dX0_insert_77 ?_
      refine lv_iload hx hb dX0_insert_80 (lv_at hl 3 rfl) ?_
      refine lv_iconst (v := Int32.ofInt (1 : Int)) hx hb dX0_insert_82 (by decide) ?_
      refine z_isub hx hb dX0_insert_83 ?_
      obtain ⟨h6, h⟩ := chk_at h
      refine azWX_Cuts_at hc hP h6 dX0_insert_84 ?_
      obtain ⟨h7, h⟩ := chk_at h
      refine szWX_Cuts_at hc hP hS h7 dX0_insert_85 (fun H locs hP hS => ?_)
      obtain ⟨S8, eS8⟩ : ∃ z, z = ub S 2 (v4).toNat (zb S 2 ((v4 - (1 : Int))).toNat) := ⟨_, rfl⟩
      replace h := olet_at eS8 h
      rw [← eS8] at hP
      obtain ⟨x9, ex9⟩ : ∃ y : Int, y = v4 + (-1 : Int) := ⟨_, rfl⟩
      replace h := olet_at ex9 h
      refine lv_iinc (v := Int32.ofInt x9) (lv' := [(4, .int (Int32.ofInt x9)), (0, .ref (a 4)), (1, .long (Int64.ofInt v1)), (3, .int (Int32.ofInt v3))]) hx hb dX0_insert_86 hl (k := 3) rfl (by rw [ex9, Int32.ofInt_add]) (by decide) rfl (fun ls hl => ?_)
      refine lv_goto (tgt := 64) hx hb dX0_insert_89 (by decide) ?_
      exact ih S8 v1 v3 x9 h H locs ls hP hS (lv_sub hl [1, 2, 3, 0] rfl)
set_option maxHeartbeats 4000000 in
set_option maxRecDepth 100000 in
theorem t_X0_insert_p29 {z : SZ} (hc : Cx p R s m args c D (tysWX g) A (WX a g) cX0_insert 5 RX0 1 23) (hr : Rtv p l e R s m args below meth c Q D A (WX a g) cX0_insert (em z)) : ∀ (S : SZ) (v1 : Int) (v3 : Int), f_X0_insert_p29 S v1 v3 = some z → Go p l e R s m args below meth c Q D A (WX a g) 5 (em S) 29 [(0, .ref (a 4)), (1, .long (Int64.ofInt v1)), (3, .int (Int32.ofInt v3))] [] := by
  obtain ⟨⟨hx, hb, hml, hown, hts⟩, -, -, -, hnf, hno⟩ := id hc
  intro S v1 v3 h H locs ls hP hS hl
  rw [f_X0_insert_p29] at h
  refine lv_iload_n hx hb dX0_insert_29 rfl (lv_at hl 2 rfl) ?_
  refine lv_aload_n hx hb dX0_insert_30 rfl (lv_at hl 0 rfl) ?_
  refine gzWX_Cuts_count hc hP q_433 dX0_insert_31 ?_
  obtain ⟨h1, h⟩ := chk_at h
  obtain ⟨h2, h⟩ := chk_at h
  refine z_icmp_ge (tgt := 48) hx hb h1 h2 dX0_insert_34 (by decide) (fun hq => ?_) (fun hq => ?_)
  · replace h := if_yes hq h
    refine lv_aload_n hx hb dX0_insert_48 rfl (lv_at hl 0 rfl) ?_
    refine gzWX_Cuts_count hc hP q_433 dX0_insert_49 ?_
    refine lv_bipush (v := Int32.ofInt (50 : Int)) hx hb dX0_insert_52 (by decide) ?_
    refine z_icmp_lt (tgt := 58) hx hb h2 (by decide) dX0_insert_54 (by decide) (fun hq => ?_) (fun hq => ?_)
    · replace h := if_yes hq h
      refine lv_aload_n hx hb dX0_insert_58 rfl (lv_at hl 0 rfl) ?_
      refine gzWX_Cuts_count hc hP q_433 dX0_insert_59 ?_
      refine z_topi (fun x3 ex3 => ?_)
      replace h := olet_at ex3 h
      refine lv_istore (lv' := [(4, .int (Int32.ofInt x3)), (0, .ref (a 4)), (1, .long (Int64.ofInt v1)), (3, .int (Int32.ofInt v3))]) hx hb dX0_insert_62 hl (by decide) rfl (fun ls hl => ?_)
      exact t_X0_insert_p64 hc hr FU S v1 v3 x3 h H locs ls hP hS (lv_sub hl [1, 2, 3, 0] rfl)
    · replace h := if_no hq h
      obtain rfl := Option.some.inj h
      exact hr _ _ _ _ dX0_insert_57 hP hS
  · replace h := if_no hq h
    refine lv_aload_n hx hb dX0_insert_37 rfl (lv_at hl 0 rfl) ?_
    refine gfWX_Cuts_at hc hP q_79 dX0_insert_38 ?_
    refine lv_iload_n hx hb dX0_insert_41 rfl (lv_at hl 2 rfl) ?_
    obtain ⟨h4, h⟩ := chk_at h
    refine azWX_Cuts_at hc hP h4 dX0_insert_42 ?_
    refine lv_lload_n hx hb dX0_insert_43 rfl (lv_at hl 1 rfl) ?_
    refine W.lcmp hx hb dX0_insert_44 ?_
    obtain ⟨h5, h⟩ := chk_at h
    obtain ⟨h6, h⟩ := chk_at h
    refine zc_if_eq (tgt := 57) hx hb h5 h6 dX0_insert_45 (by decide) (fun hq => ?_) (fun hq => ?_)
    · replace h := if_yes hq h
      obtain rfl := Option.some.inj h
      exact hr _ _ _ _ dX0_insert_57 hP hS
    · replace h := if_no hq h
      refine lv_aload_n hx hb dX0_insert_48 rfl (lv_at hl 0 rfl) ?_
      refine gzWX_Cuts_count hc hP q_433 dX0_insert_49 ?_
      refine lv_bipush (v := Int32.ofInt (50 : Int)) hx hb dX0_insert_52 (by decide) ?_
      refine z_icmp_lt (tgt := 58) hx hb h2 (by decide) dX0_insert_54 (by decide) (fun hq => ?_) (fun hq => ?_)
      · replace h := if_yes hq h
        refine lv_aload_n hx hb dX0_insert_58 rfl (lv_at hl 0 rfl) ?_
        refine gzWX_Cuts_count hc hP q_433 dX0_insert_59 ?_
        refine z_topi (fun x7 ex7 => ?_)
        replace h := olet_at ex7 h
        refine lv_istore (lv' := [(4, .int (Int32.ofInt x7)), (0, .ref (a 4)), (1, .long (Int64.ofInt v1)), (3, .int (Int32.ofInt v3))]) hx hb dX0_insert_62 hl (by decide) rfl (fun ls hl => ?_)
        exact t_X0_insert_p64 hc hr FU S v1 v3 x7 h H locs ls hP hS (lv_sub hl [1, 2, 3, 0] rfl)
      · replace h := if_no hq h
        obtain rfl := Option.some.inj h
        exact hr _ _ _ _ dX0_insert_57 hP hS
set_option maxHeartbeats 4000000 in
set_option maxRecDepth 100000 in
theorem t_X0_insert_p2 {z : SZ} (hc : Cx p R s m args c D (tysWX g) A (WX a g) cX0_insert 5 RX0 1 23) (hr : Rtv p l e R s m args below meth c Q D A (WX a g) cX0_insert (em z)) : ∀ (fu : Nat) (S : SZ) (v1 : Int) (v3 : Int), f_X0_insert_p2 fu S v1 v3 = some z → Go p l e R s m args below meth c Q D A (WX a g) 5 (em S) 2 [(0, .ref (a 4)), (1, .long (Int64.ofInt v1)), (3, .int (Int32.ofInt v3))] [] := by
  obtain ⟨⟨hx, hb, hml, hown, hts⟩, -, -, -, hnf, hno⟩ := id hc
  intro fu
  induction fu with
  | zero =>
    intro S v1 v3 h
    rw [f_X0_insert_p2] at h
    cases h
  | succ fu ih =>
    intro S v1 v3 h H locs ls hP hS hl
    rw [f_X0_insert_p2] at h
    refine lv_iload_n hx hb dX0_insert_2 rfl (lv_at hl 2 rfl) ?_
    refine lv_aload_n hx hb dX0_insert_3 rfl (lv_at hl 0 rfl) ?_
    refine gzWX_Cuts_count hc hP q_433 dX0_insert_4 ?_
    obtain ⟨h1, h⟩ := chk_at h
    obtain ⟨h2, h⟩ := chk_at h
    refine z_icmp_ge (tgt := 29) hx hb h1 h2 dX0_insert_7 (by decide) (fun hq => ?_) (fun hq => ?_)
    · replace h := if_yes hq h
      exact t_X0_insert_p29 hc hr S v1 v3 h H locs ls hP hS (lv_sub hl [0, 1, 2] rfl)
    · replace h := if_no hq h
      refine lv_aload_n hx hb dX0_insert_10 rfl (lv_at hl 0 rfl) ?_
      refine gfWX_Cuts_at hc hP q_79 dX0_insert_11 ?_
      refine lv_iload_n hx hb dX0_insert_14 rfl (lv_at hl 2 rfl) ?_
      obtain ⟨h3, h⟩ := chk_at h
      refine azWX_Cuts_at hc hP h3 dX0_insert_15 ?_
      refine lv_lload_n hx hb dX0_insert_16 rfl (lv_at hl 1 rfl) ?_
      obtain ⟨S4, x6, hk5, h⟩ := ob2_at h
      refine cl_Si (As := [.long (Int64.ofInt (zb S 2 (v3).toNat)), .long (Int64.ofInt v1)]) (rest := []) hc k_X2_less q_463 (c_X2_less hk5) hP hS rfl hl (Nat.le_of_ble_eq_true rfl) dX0_insert_17 (Nat.le_of_ble_eq_true rfl) (Nat.le_of_ble_eq_true rfl) rfl (fun H locs hP hS => ?_)
      obtain ⟨h7, h⟩ := chk_at h
      refine z_if_eq (tgt := 29) hx hb h7 dX0_insert_20 (by decide) (fun hq => ?_) (fun hq => ?_)
      · replace h := if_yes hq h
        exact t_X0_insert_p29 hc hr S4 v1 v3 h H locs ls hP hS (lv_sub hl [0, 1, 2] rfl)
      · replace h := if_no hq h
        obtain ⟨x8, ex8⟩ : ∃ y : Int, y = v3 + (1 : Int) := ⟨_, rfl⟩
        replace h := olet_at ex8 h
        refine lv_iinc (v := Int32.ofInt x8) (lv' := [(3, .int (Int32.ofInt x8)), (0, .ref (a 4)), (1, .long (Int64.ofInt v1))]) hx hb dX0_insert_23 hl (k := 2) rfl (by rw [ex8, Int32.ofInt_add]) (by decide) rfl (fun ls hl => ?_)
        refine lv_goto (tgt := 2) hx hb dX0_insert_26 (by decide) ?_
        exact ih S4 v1 x8 h H locs ls hP hS (lv_sub hl [1, 2, 0] rfl)
set_option maxHeartbeats 4000000 in
set_option maxRecDepth 100000 in
theorem t_X0_insert {z : SZ} (hc : Cx p R s m args c D (tysWX g) A (WX a g) cX0_insert 5 RX0 1 23) (hr : Rtv p l e R s m args below meth c Q D A (WX a g) cX0_insert (em z)) : ∀ (S : SZ) (v1 : Int), f_X0_insert S v1 = some z → Go p l e R s m args below meth c Q D A (WX a g) 5 (em S) 0 [(0, .ref (a 4)), (1, .long (Int64.ofInt v1))] [] := by
  obtain ⟨⟨hx, hb, hml, hown, hts⟩, -, -, -, hnf, hno⟩ := id hc
  intro S v1 h H locs ls hP hS hl
  rw [f_X0_insert] at h
  replace hl : lv_has ls 5 [(0, .ref (a 4)), (1, .long (Int64.ofInt v1))] := hl
  refine lv_iconst (v := Int32.ofInt (0 : Int)) hx hb dX0_insert_0 (by decide) ?_
  refine lv_istore_n (lv' := [(3, .int (Int32.ofInt (0 : Int))), (0, .ref (a 4)), (1, .long (Int64.ofInt v1))]) hx hb dX0_insert_1 rfl hl (by decide) rfl (fun ls hl => ?_)
  exact t_X0_insert_p2 hc hr FU S v1 (0 : Int) h H locs ls hP hS (lv_sub hl [1, 2, 0] rfl)
abbrev rm_X0_insert : Room := { frames := 1, cells := 0, slots := 0, locals := 23 }
theorem c_X0_insert {l : Launch} {D : va_G} {a : Nat → Nat} {g : Nat → ClassId} {S : SZ} {v1 : Int} {z : SZ} (h : f_X0_insert S v1 = some z) : MetV l D (tysWX g) (WX a g) E0 yX0_insert cX0_insert 5 none rm_X0_insert [.ref (a 4), .long (Int64.ofInt v1)] (em S) (em z) := mk_v (WX_same a g) (by decide) (em z) (Nat.le_of_ble_eq_true rfl) (fun p e s m args below meth c A Q hc hE hr => t_X0_insert (z := z) hc hr S v1 h)
theorem k_X0_insert : CalV RX0 yX0_insert cX0_insert 5 none rm_X0_insert 1 := ⟨q_465, q_466, q_26, q_467, by decide +kernel, rfl, rfl⟩
set_option maxHeartbeats 4000000 in
set_option maxRecDepth 100000 in
theorem t_X0_addStretch {z : SZ} (hc : Cx p R s m args c D (tysWX g) A (WX a g) cX0_addStretch 9 RX0 2 59) (hr : Rtv p l e R s m args below meth c Q D A (WX a g) cX0_addStretch (em z)) : ∀ (S : SZ) (v2 : Int) (v3 : Int) (v4 : Int), f_X0_addStretch S v2 v3 v4 = some z → Go p l e R s m args below meth c Q D A (WX a g) 9 (em S) 0 [(0, .ref (a 4)), (1, .ref (a 2)), (2, .int (Int32.ofInt v2)), (3, .int (Int32.ofInt v3)), (4, .int (Int32.ofInt v4))] [] := by
  obtain ⟨⟨hx, hb, hml, hown, hts⟩, -, -, -, hnf, hno⟩ := id hc
  intro S v2 v3 v4 h H locs ls hP hS hl
  rw [f_X0_addStretch] at h
  replace hl : lv_has ls 9 [(0, .ref (a 4)), (1, .ref (a 2)), (2, .int (Int32.ofInt v2)), (3, .int (Int32.ofInt v3)), (4, .int (Int32.ofInt v4))] := hl
  refine lv_aload_n hx hb dX0_addStretch_0 rfl (lv_at hl 1 rfl) ?_
  refine lv_iload_n hx hb dX0_addStretch_1 rfl (lv_at hl 2 rfl) ?_
  refine lv_iload_n hx hb dX0_addStretch_2 rfl (lv_at hl 3 rfl) ?_
  refine lv_iload hx hb dX0_addStretch_3 (lv_at hl 4 rfl) ?_
  obtain ⟨S1, x3, hk2, h⟩ := ob2_at h
  refine cl_Vl (As := [.int (Int32.ofInt v2), .int (Int32.ofInt v3), .int (Int32.ofInt v4)]) (rest := []) hc k_X6_stretchEnd q_444 (c_X6_stretchEnd hk2) hP hS (WX_2 a g (em S)) rfl rfl rfl hl (Nat.le_of_ble_eq_true rfl) dX0_addStretch_5 (Nat.le_of_ble_eq_true rfl) (Nat.le_of_ble_eq_true rfl) rfl (fun H locs hP hS => ?_)
  refine lv_lstore (lv' := [(5, .long (Int64.ofInt x3)), (0, .ref (a 4)), (1, .ref (a 2)), (2, .int (Int32.ofInt v2)), (3, .int (Int32.ofInt v3)), (4, .int (Int32.ofInt v4))]) hx hb dX0_addStretch_8 hl (by decide) rfl (fun ls hl => ?_)
  refine lv_lload hx hb dX0_addStretch_10 (lv_at hl 0 rfl) ?_
  refine lv_lconst (v := Int64.ofInt (1 : Int)) hx hb dX0_addStretch_12 (by decide) ?_
  refine W.lcmp hx hb dX0_addStretch_13 ?_
  obtain ⟨h4, h⟩ := chk_at h
  refine zc_if_ne (tgt := 18) hx hb h4 (by decide) dX0_addStretch_14 (by decide) (fun hq => ?_) (fun hq => ?_)
  · replace h := if_no hq h
    refine lv_aload_n hx hb dX0_addStretch_18 rfl (lv_at hl 2 rfl) ?_
    refine lv_iload_n hx hb dX0_addStretch_19 rfl (lv_at hl 3 rfl) ?_
    refine lv_iload_n hx hb dX0_addStretch_20 rfl (lv_at hl 4 rfl) ?_
    refine lv_iload hx hb dX0_addStretch_21 (lv_at hl 5 rfl) ?_
    obtain ⟨S5, x7, hk6, h⟩ := ob2_at h
    refine cl_Vl (As := [.int (Int32.ofInt v2), .int (Int32.ofInt v3), .int (Int32.ofInt v4)]) (rest := []) hc k_X6_stretchBegin q_459 (c_X6_stretchBegin hk6) hP hS (WX_2 a g (em S1)) rfl rfl rfl hl (Nat.le_of_ble_eq_true rfl) dX0_addStretch_23 (Nat.le_of_ble_eq_true rfl) (Nat.le_of_ble_eq_true rfl) rfl (fun H locs hP hS => ?_)
    refine lv_lstore (lv' := [(7, .long (Int64.ofInt x7)), (5, .long (Int64.ofInt x3)), (0, .ref (a 4)), (1, .ref (a 2)), (2, .int (Int32.ofInt v2)), (3, .int (Int32.ofInt v3)), (4, .int (Int32.ofInt v4))]) hx hb dX0_addStretch_26 hl (by decide) rfl (fun ls hl => ?_)
    refine lv_lload hx hb dX0_addStretch_28 (lv_at hl 0 rfl) ?_
    refine lv_lload hx hb dX0_addStretch_30 (lv_at hl 1 rfl) ?_
    obtain ⟨S8, x10, hk9, h⟩ := ob2_at h
    refine cl_Si (As := [.long (Int64.ofInt x7), .long (Int64.ofInt x3)]) (rest := []) hc k_X2_less q_463 (c_X2_less hk9) hP hS rfl hl (Nat.le_of_ble_eq_true rfl) dX0_addStretch_32 (Nat.le_of_ble_eq_true rfl) (Nat.le_of_ble_eq_true rfl) rfl (fun H locs hP hS => ?_)
    obtain ⟨h11, h⟩ := chk_at h
    refine z_if_eq (tgt := 82) hx hb h11 dX0_addStretch_35 (by decide) (fun hq => ?_) (fun hq => ?_)
    · replace h := if_yes hq h
      obtain rfl := Option.some.inj h
      exact hr _ _ _ _ dX0_addStretch_82 hP hS
    · replace h := if_no hq h
      refine lv_aload_n hx hb dX0_addStretch_38 rfl (lv_at hl 2 rfl) ?_
      refine gfWX_Cuts_begin hc hP q_76 dX0_addStretch_39 ?_
      refine lv_aload_n hx hb dX0_addStretch_42 rfl (lv_at hl 2 rfl) ?_
      refine gzWX_Cuts_stretches hc hP q_434 dX0_addStretch_43 ?_
      refine lv_lload hx hb dX0_addStretch_46 (lv_at hl 0 rfl) ?_
      obtain ⟨h12, h⟩ := chk_at h
      refine szWX_Cuts_begin hc hP hS h12 dX0_addStretch_48 (fun H locs hP hS => ?_)
      obtain ⟨S13, eS13⟩ : ∃ z, z = ub S8 0 ((zi S8 10)).toNat x7 := ⟨_, rfl⟩
      replace h := olet_at eS13 h
      rw [← eS13] at hP
      refine lv_aload_n hx hb dX0_addStretch_49 rfl (lv_at hl 2 rfl) ?_
      refine gfWX_Cuts_end hc hP q_77 dX0_addStretch_50 ?_
      refine lv_aload_n hx hb dX0_addStretch_53 rfl (lv_at hl 2 rfl) ?_
      refine gzWX_Cuts_stretches hc hP q_434 dX0_addStretch_54 ?_
      refine lv_lload hx hb dX0_addStretch_57 (lv_at hl 1 rfl) ?_
      obtain ⟨h14, h⟩ := chk_at h
      refine szWX_Cuts_end hc hP hS h14 dX0_addStretch_59 (fun H locs hP hS => ?_)
      obtain ⟨S15, eS15⟩ : ∃ z, z = ub S13 1 ((zi S13 10)).toNat x3 := ⟨_, rfl⟩
      replace h := olet_at eS15 h
      rw [← eS15] at hP
      refine lv_aload_n hx hb dX0_addStretch_60 rfl (lv_at hl 2 rfl) ?_
      refine lv_dup hx hb dX0_addStretch_61 rfl ?_
      refine gzWX_Cuts_stretches hc hP q_434 dX0_addStretch_62 ?_
      refine lv_iconst (v := Int32.ofInt (1 : Int)) hx hb dX0_addStretch_65 (by decide) ?_
      refine z_iadd hx hb dX0_addStretch_66 ?_
      refine pzWX_Cuts_stretches hc hP hS q_434 dX0_addStretch_67 (fun H locs hP hS => ?_)
      obtain ⟨S16, eS16⟩ : ∃ z, z = ui S15 10 ((zi S15 10) + (1 : Int)) := ⟨_, rfl⟩
      replace h := olet_at eS16 h
      rw [← eS16] at hP
      refine lv_aload_n hx hb dX0_addStretch_70 rfl (lv_at hl 2 rfl) ?_
      refine lv_lload hx hb dX0_addStretch_71 (lv_at hl 0 rfl) ?_
      obtain ⟨S17, hk18, h⟩ := ob1_at h
      refine cl_Vv (As := [.long (Int64.ofInt x7)]) (rest := []) hc k_X0_insert q_464 (c_X0_insert hk18) hP hS (WX_4 a g (em S16)) rfl rfl rfl hl (Nat.le_of_ble_eq_true rfl) dX0_addStretch_73 (Nat.le_of_ble_eq_true rfl) (Nat.le_of_ble_eq_true rfl) rfl (fun H locs hP hS => ?_)
      refine lv_aload_n hx hb dX0_addStretch_76 rfl (lv_at hl 2 rfl) ?_
      refine lv_lload hx hb dX0_addStretch_77 (lv_at hl 1 rfl) ?_
      obtain ⟨S19, hk20, h⟩ := ob1_at h
      refine cl_Vv (As := [.long (Int64.ofInt x3)]) (rest := []) hc k_X0_insert q_464 (c_X0_insert hk20) hP hS (WX_4 a g (em S17)) rfl rfl rfl hl (Nat.le_of_ble_eq_true rfl) dX0_addStretch_79 (Nat.le_of_ble_eq_true rfl) (Nat.le_of_ble_eq_true rfl) rfl (fun H locs hP hS => ?_)
      obtain rfl := Option.some.inj h
      exact hr _ _ _ _ dX0_addStretch_82 hP hS
  · replace h := if_yes hq h
    obtain rfl := Option.some.inj h
    exact hr _ _ _ _ dX0_addStretch_17 hP hS
abbrev rm_X0_addStretch : Room := { frames := 2, cells := 0, slots := 0, locals := 59 }
theorem c_X0_addStretch {l : Launch} {D : va_G} {a : Nat → Nat} {g : Nat → ClassId} {S : SZ} {v2 : Int} {v3 : Int} {v4 : Int} {z : SZ} (h : f_X0_addStretch S v2 v3 v4 = some z) : MetV l D (tysWX g) (WX a g) E0 yX0_addStretch cX0_addStretch 9 none rm_X0_addStretch [.ref (a 4), .ref (a 2), .int (Int32.ofInt v2), .int (Int32.ofInt v3), .int (Int32.ofInt v4)] (em S) (em z) := mk_v (WX_same a g) (by decide) (em z) (Nat.le_of_ble_eq_true rfl) (fun p e s m args below meth c A Q hc hE hr => t_X0_addStretch (z := z) hc hr S v2 v3 v4 h)
theorem k_X0_addStretch : CalV RX0 yX0_addStretch cX0_addStretch 9 none rm_X0_addStretch 4 := ⟨q_441, q_442, q_26, q_443, by decide +kernel, rfl, rfl⟩
set_option maxHeartbeats 4000000 in
set_option maxRecDepth 100000 in
theorem t_X0_countQuantities_p73 {z : SZ} (hc : Cx p R s m args c D (tysWX g) A (WX a g) cX0_countQuantities 4 RX0 1 23) (hr : Rtv p l e R s m args below meth c Q D A (WX a g) cX0_countQuantities (em z)) {k10 : SZ → Int → Option (SZ)} (K10 : ∀ (S : SZ) (v1 : Int), k10 S v1 = some z → Go p l e R s m args below meth c Q D A (WX a g) 4 (em S) 10 [(0, .ref (a 4)), (1, .int (Int32.ofInt v1))] []) {k22 : SZ → Int → Int → Int → Option (SZ)} (K22 : ∀ (S : SZ) (v1 : Int) (v2 : Int) (v3 : Int), k22 S v1 v2 v3 = some z → Go p l e R s m args below meth c Q D A (WX a g) 4 (em S) 22 [(0, .ref (a 4)), (1, .int (Int32.ofInt v1)), (2, .int (Int32.ofInt v2)), (3, .int (Int32.ofInt v3))] []) : ∀ (S : SZ) (v1 : Int) (v3 : Int) (s0 : Int), f_X0_countQuantities_p73 k10 k22 S v1 v3 s0 = some z → Go p l e R s m args below meth c Q D A (WX a g) 4 (em S) 73 [(0, .ref (a 4)), (1, .int (Int32.ofInt v1)), (3, .int (Int32.ofInt v3))] [.int (Int32.ofInt s0)] := by
  obtain ⟨⟨hx, hb, hml, hown, hts⟩, -, -, -, hnf, hno⟩ := id hc
  intro S v1 v3 s0 h H locs ls hP hS hl
  rw [f_X0_countQuantities_p73] at h
  refine lv_istore_n (lv' := [(2, .int (Int32.ofInt s0)), (0, .ref (a 4)), (1, .int (Int32.ofInt v1)), (3, .int (Int32.ofInt v3))]) hx hb dX0_countQuantities_73 rfl hl (by decide) rfl (fun ls hl => ?_)
  refine lv_iload_n hx hb dX0_countQuantities_74 rfl (lv_at hl 0 rfl) ?_
  obtain ⟨h1, h⟩ := chk_at h
  refine z_if_eq (tgt := 88) hx hb h1 dX0_countQuantities_75 (by decide) (fun hq => ?_) (fun hq => ?_)
  · replace h := if_yes hq h
    obtain ⟨x2, ex2⟩ : ∃ y : Int, y = v3 + (1 : Int) := ⟨_, rfl⟩
    replace h := olet_at ex2 h
    refine lv_iinc (v := Int32.ofInt x2) (lv' := [(3, .int (Int32.ofInt x2)), (2, .int (Int32.ofInt s0)), (0, .ref (a 4)), (1, .int (Int32.ofInt v1))]) hx hb dX0_countQuantities_88 hl (k := 3) rfl (by rw [ex2, Int32.ofInt_add]) (by decide) rfl (fun ls hl => ?_)
    refine lv_goto (tgt := 22) hx hb dX0_countQuantities_91 (by decide) ?_
    exact K22 S v1 s0 x2 h H locs ls hP hS (lv_sub hl [2, 3, 1, 0] rfl)
  · replace h := if_no hq h
    refine lv_aload_n hx hb dX0_countQuantities_78 rfl (lv_at hl 1 rfl) ?_
    refine gfWX_Cuts_quantity hc hP q_80 dX0_countQuantities_79 ?_
    refine lv_iload_n hx hb dX0_countQuantities_82 rfl (lv_at hl 3 rfl) ?_
    refine lv_dup2_11 hx hb dX0_countQuantities_83 rfl rfl ?_
    obtain ⟨h3, h⟩ := chk_at h
    refine azWX_Cuts_quantity hc hP h3 dX0_countQuantities_84 ?_
    refine lv_iconst (v := Int32.ofInt (1 : Int)) hx hb dX0_countQuantities_85 (by decide) ?_
    refine z_iadd hx hb dX0_countQuantities_86 ?_
    refine szWX_Cuts_quantity hc hP hS h3 dX0_countQuantities_87 (fun H locs hP hS => ?_)
    obtain ⟨S4, eS4⟩ : ∃ z, z = ua S 17 (v3).toNat ((za S 17 (v3).toNat) + (1 : Int)) := ⟨_, rfl⟩
    replace h := olet_at eS4 h
    rw [← eS4] at hP
    obtain ⟨x5, ex5⟩ : ∃ y : Int, y = v3 + (1 : Int) := ⟨_, rfl⟩
    replace h := olet_at ex5 h
    refine lv_iinc (v := Int32.ofInt x5) (lv' := [(3, .int (Int32.ofInt x5)), (2, .int (Int32.ofInt s0)), (0, .ref (a 4)), (1, .int (Int32.ofInt v1))]) hx hb dX0_countQuantities_88 hl (k := 3) rfl (by rw [ex5, Int32.ofInt_add]) (by decide) rfl (fun ls hl => ?_)
    refine lv_goto (tgt := 22) hx hb dX0_countQuantities_91 (by decide) ?_
    exact K22 S4 v1 s0 x5 h H locs ls hP hS (lv_sub hl [2, 3, 1, 0] rfl)
set_option maxHeartbeats 4000000 in
set_option maxRecDepth 100000 in
theorem t_X0_countQuantities_p22 {z : SZ} (hc : Cx p R s m args c D (tysWX g) A (WX a g) cX0_countQuantities 4 RX0 1 23) (hr : Rtv p l e R s m args below meth c Q D A (WX a g) cX0_countQuantities (em z)) {k10 : SZ → Int → Option (SZ)} (K10 : ∀ (S : SZ) (v1 : Int), k10 S v1 = some z → Go p l e R s m args below meth c Q D A (WX a g) 4 (em S) 10 [(0, .ref (a 4)), (1, .int (Int32.ofInt v1))] []) : ∀ (fu : Nat) (S : SZ) (v1 : Int) (v2 : Int) (v3 : Int), f_X0_countQuantities_p22 k10 fu S v1 v2 v3 = some z → Go p l e R s m args below meth c Q D A (WX a g) 4 (em S) 22 [(0, .ref (a 4)), (1, .int (Int32.ofInt v1)), (2, .int (Int32.ofInt v2)), (3, .int (Int32.ofInt v3))] [] := by
  obtain ⟨⟨hx, hb, hml, hown, hts⟩, -, -, -, hnf, hno⟩ := id hc
  intro fu
  induction fu with
  | zero =>
    intro S v1 v2 v3 h
    rw [f_X0_countQuantities_p22] at h
    cases h
  | succ fu ih =>
    intro S v1 v2 v3 h H locs ls hP hS hl
    rw [f_X0_countQuantities_p22] at h
    refine lv_iload_n hx hb dX0_countQuantities_22 rfl (lv_at hl 3 rfl) ?_
    refine lv_aload_n hx hb dX0_countQuantities_23 rfl (lv_at hl 0 rfl) ?_
    refine gzWX_Cuts_count hc hP q_433 dX0_countQuantities_24 ?_
    refine lv_iconst (v := Int32.ofInt (1 : Int)) hx hb dX0_countQuantities_27 (by decide) ?_
    refine z_isub hx hb dX0_countQuantities_28 ?_
    obtain ⟨h1, h⟩ := chk_at h
    obtain ⟨h2, h⟩ := chk_at h
    refine z_icmp_ge (tgt := 94) hx hb h1 h2 dX0_countQuantities_29 (by decide) (fun hq => ?_) (fun hq => ?_)
    · replace h := if_yes hq h
      obtain ⟨x3, ex3⟩ : ∃ y : Int, y = v1 + (1 : Int) := ⟨_, rfl⟩
      replace h := olet_at ex3 h
      refine lv_iinc (v := Int32.ofInt x3) (lv' := [(1, .int (Int32.ofInt x3)), (0, .ref (a 4)), (2, .int (Int32.ofInt v2)), (3, .int (Int32.ofInt v3))]) hx hb dX0_countQuantities_94 hl (k := 1) rfl (by rw [ex3, Int32.ofInt_add]) (by decide) rfl (fun ls hl => ?_)
      refine lv_goto (tgt := 10) hx hb dX0_countQuantities_97 (by decide) ?_
      exact K10 S x3 h H locs ls hP hS (lv_sub hl [1, 0] rfl)
    · replace h := if_no hq h
      refine lv_aload_n hx hb dX0_countQuantities_32 rfl (lv_at hl 0 rfl) ?_
      refine gfWX_Cuts_at hc hP q_79 dX0_countQuantities_33 ?_
      refine lv_iload_n hx hb dX0_countQuantities_36 rfl (lv_at hl 3 rfl) ?_
      obtain ⟨h4, h⟩ := chk_at h
      refine azWX_Cuts_at hc hP h4 dX0_countQuantities_37 ?_
      refine lv_aload_n hx hb dX0_countQuantities_38 rfl (lv_at hl 0 rfl) ?_
      refine gfWX_Cuts_begin hc hP q_76 dX0_countQuantities_39 ?_
      refine lv_iload_n hx hb dX0_countQuantities_42 rfl (lv_at hl 1 rfl) ?_
      obtain ⟨h5, h⟩ := chk_at h
      refine azWX_Cuts_begin hc hP h5 dX0_countQuantities_43 ?_
      refine W.lcmp hx hb dX0_countQuantities_44 ?_
      obtain ⟨h6, h⟩ := chk_at h
      obtain ⟨h7, h⟩ := chk_at h
      refine zc_if_eq (tgt := 68) hx hb h6 h7 dX0_countQuantities_45 (by decide) (fun hq => ?_) (fun hq => ?_)
      · replace h := if_yes hq h
        refine lv_iconst (v := Int32.ofInt (1 : Int)) hx hb dX0_countQuantities_68 (by decide) ?_
        refine lv_goto (tgt := 73) hx hb dX0_countQuantities_69 (by decide) ?_
        exact t_X0_countQuantities_p73 hc hr K10 ih S v1 v3 (1 : Int) h H locs ls hP hS (lv_sub hl [0, 1, 3] rfl)
      · replace h := if_no hq h
        refine lv_iload_n hx hb dX0_countQuantities_48 rfl (lv_at hl 2 rfl) ?_
        obtain ⟨h8, h⟩ := chk_at h
        refine z_if_eq (tgt := 72) hx hb h8 dX0_countQuantities_49 (by decide) (fun hq => ?_) (fun hq => ?_)
        · replace h := if_yes hq h
          refine lv_iconst (v := Int32.ofInt (0 : Int)) hx hb dX0_countQuantities_72 (by decide) ?_
          exact t_X0_countQuantities_p73 hc hr K10 ih S v1 v3 (0 : Int) h H locs ls hP hS (lv_sub hl [0, 1, 3] rfl)
        · replace h := if_no hq h
          refine lv_aload_n hx hb dX0_countQuantities_52 rfl (lv_at hl 0 rfl) ?_
          refine gfWX_Cuts_at hc hP q_79 dX0_countQuantities_53 ?_
          refine lv_iload_n hx hb dX0_countQuantities_56 rfl (lv_at hl 3 rfl) ?_
          refine azWX_Cuts_at hc hP h4 dX0_countQuantities_57 ?_
          refine lv_aload_n hx hb dX0_countQuantities_58 rfl (lv_at hl 0 rfl) ?_
          refine gfWX_Cuts_end hc hP q_77 dX0_countQuantities_59 ?_
          refine lv_iload_n hx hb dX0_countQuantities_62 rfl (lv_at hl 1 rfl) ?_
          refine azWX_Cuts_end hc hP h5 dX0_countQuantities_63 ?_
          refine W.lcmp hx hb dX0_countQuantities_64 ?_
          obtain ⟨h9, h⟩ := chk_at h
          refine zc_if_eq (tgt := 72) hx hb h6 h9 dX0_countQuantities_65 (by decide) (fun hq => ?_) (fun hq => ?_)
          · replace h := if_yes hq h
            refine lv_iconst (v := Int32.ofInt (0 : Int)) hx hb dX0_countQuantities_72 (by decide) ?_
            exact t_X0_countQuantities_p73 hc hr K10 ih S v1 v3 (0 : Int) h H locs ls hP hS (lv_sub hl [0, 1, 3] rfl)
          · replace h := if_no hq h
            refine lv_iconst (v := Int32.ofInt (1 : Int)) hx hb dX0_countQuantities_68 (by decide) ?_
            refine lv_goto (tgt := 73) hx hb dX0_countQuantities_69 (by decide) ?_
            exact t_X0_countQuantities_p73 hc hr K10 ih S v1 v3 (1 : Int) h H locs ls hP hS (lv_sub hl [0, 1, 3] rfl)
set_option maxHeartbeats 4000000 in
set_option maxRecDepth 100000 in
theorem t_X0_countQuantities_p10 {z : SZ} (hc : Cx p R s m args c D (tysWX g) A (WX a g) cX0_countQuantities 4 RX0 1 23) (hr : Rtv p l e R s m args below meth c Q D A (WX a g) cX0_countQuantities (em z)) : ∀ (fu : Nat) (S : SZ) (v1 : Int), f_X0_countQuantities_p10 fu S v1 = some z → Go p l e R s m args below meth c Q D A (WX a g) 4 (em S) 10 [(0, .ref (a 4)), (1, .int (Int32.ofInt v1))] [] := by
  obtain ⟨⟨hx, hb, hml, hown, hts⟩, -, -, -, hnf, hno⟩ := id hc
  intro fu
  induction fu with
  | zero =>
    intro S v1 h
    rw [f_X0_countQuantities_p10] at h
    cases h
  | succ fu ih =>
    intro S v1 h H locs ls hP hS hl
    rw [f_X0_countQuantities_p10] at h
    refine lv_iload_n hx hb dX0_countQuantities_10 rfl (lv_at hl 1 rfl) ?_
    refine lv_aload_n hx hb dX0_countQuantities_11 rfl (lv_at hl 0 rfl) ?_
    refine gzWX_Cuts_stretches hc hP q_434 dX0_countQuantities_12 ?_
    obtain ⟨h1, h⟩ := chk_at h
    obtain ⟨h2, h⟩ := chk_at h
    refine z_icmp_ge (tgt := 100) hx hb h1 h2 dX0_countQuantities_15 (by decide) (fun hq => ?_) (fun hq => ?_)
    · replace h := if_yes hq h
      obtain rfl := Option.some.inj h
      exact hr _ _ _ _ dX0_countQuantities_100 hP hS
    · replace h := if_no hq h
      refine lv_iconst (v := Int32.ofInt (0 : Int)) hx hb dX0_countQuantities_18 (by decide) ?_
      refine lv_istore_n (lv' := [(2, .int (Int32.ofInt (0 : Int))), (0, .ref (a 4)), (1, .int (Int32.ofInt v1))]) hx hb dX0_countQuantities_19 rfl hl (by decide) rfl (fun ls hl => ?_)
      refine lv_iconst (v := Int32.ofInt (0 : Int)) hx hb dX0_countQuantities_20 (by decide) ?_
      refine lv_istore_n (lv' := [(3, .int (Int32.ofInt (0 : Int))), (2, .int (Int32.ofInt (0 : Int))), (0, .ref (a 4)), (1, .int (Int32.ofInt v1))]) hx hb dX0_countQuantities_21 rfl hl (by decide) rfl (fun ls hl => ?_)
      exact t_X0_countQuantities_p22 hc hr ih FU S v1 (0 : Int) (0 : Int) h H locs ls hP hS (lv_sub hl [2, 3, 1, 0] rfl)
set_option maxHeartbeats 4000000 in
set_option maxRecDepth 100000 in
theorem t_X0_countQuantities {z : SZ} (hc : Cx p R s m args c D (tysWX g) A (WX a g) cX0_countQuantities 4 RX0 1 23) (hr : Rtv p l e R s m args below meth c Q D A (WX a g) cX0_countQuantities (em z)) : ∀ (S : SZ), f_X0_countQuantities S = some z → Go p l e R s m args below meth c Q D A (WX a g) 4 (em S) 0 [(0, .ref (a 4))] [] := by
  obtain ⟨⟨hx, hb, hml, hown, hts⟩, -, -, -, hnf, hno⟩ := id hc
  intro S h H locs ls hP hS hl
  rw [f_X0_countQuantities] at h
  replace hl : lv_has ls 4 [(0, .ref (a 4))] := hl
  refine lv_aload_n hx hb dX0_countQuantities_0 rfl (lv_at hl 0 rfl) ?_
  refine gfWX_Cuts_quantity hc hP q_80 dX0_countQuantities_1 ?_
  refine lv_iconst (v := Int32.ofInt (0 : Int)) hx hb dX0_countQuantities_4 (by decide) ?_
  obtain ⟨S1, hk2, h⟩ := ob1_at h
  refine cl_Sv (As := [.ref (a 28), .int (Int32.ofInt (0 : Int))]) (rest := []) hc k_J7_fill_quantity q_472 (c_J7_fill_quantity hk2) hP hS rfl hl (Nat.le_of_ble_eq_true rfl) dX0_countQuantities_5 (Nat.le_of_ble_eq_true rfl) (Nat.le_of_ble_eq_true rfl) rfl (fun H locs hP hS => ?_)
  refine lv_iconst (v := Int32.ofInt (0 : Int)) hx hb dX0_countQuantities_8 (by decide) ?_
  refine lv_istore_n (lv' := [(1, .int (Int32.ofInt (0 : Int))), (0, .ref (a 4))]) hx hb dX0_countQuantities_9 rfl hl (by decide) rfl (fun ls hl => ?_)
  exact t_X0_countQuantities_p10 hc hr FU S1 (0 : Int) h H locs ls hP hS (lv_sub hl [1, 0] rfl)
abbrev rm_X0_countQuantities : Room := { frames := 1, cells := 0, slots := 0, locals := 23 }
theorem c_X0_countQuantities {l : Launch} {D : va_G} {a : Nat → Nat} {g : Nat → ClassId} {S : SZ} {z : SZ} (h : f_X0_countQuantities S = some z) : MetV l D (tysWX g) (WX a g) E0 yX0_countQuantities cX0_countQuantities 4 none rm_X0_countQuantities [.ref (a 4)] (em S) (em z) := mk_v (WX_same a g) (by decide) (em z) (Nat.le_of_ble_eq_true rfl) (fun p e s m args below meth c A Q hc hE hr => t_X0_countQuantities (z := z) hc hr S h)
theorem k_X0_countQuantities : CalV RX0 yX0_countQuantities cX0_countQuantities 4 none rm_X0_countQuantities 0 := ⟨q_469, q_470, q_26, q_471, by decide +kernel, rfl, rfl⟩
set_option maxHeartbeats 4000000 in
set_option maxRecDepth 100000 in
theorem t_X0_bare_p4 {z : SZ × Int} (hc : Cx p R s m args c D (tysWX g) A (WX a g) cX0_bare 4 RX0 0 0) (hr : Rtl p l e R s m args below meth c Q D A (WX a g) cX0_bare (em z.1, Int64.ofInt z.2)) : ∀ (fu : Nat) (S : SZ) (v1 : Int) (v3 : Int), f_X0_bare_p4 fu S v1 v3 = some z → Go p l e R s m args below meth c Q D A (WX a g) 4 (em S) 4 [(0, .ref (a 4)), (1, .long (Int64.ofInt v1)), (3, .int (Int32.ofInt v3))] [] := by
  obtain ⟨⟨hx, hb, hml, hown, hts⟩, -, -, -, hnf, hno⟩ := id hc
  intro fu
  induction fu with
  | zero =>
    intro S v1 v3 h
    rw [f_X0_bare_p4] at h
    cases h
  | succ fu ih =>
    intro S v1 v3 h H locs ls hP hS hl
    rw [f_X0_bare_p4] at h
    refine lv_iload_n hx hb dX0_bare_4 rfl (lv_at hl 2 rfl) ?_
    refine lv_aload_n hx hb dX0_bare_5 rfl (lv_at hl 0 rfl) ?_
    refine gzWX_Cuts_count hc hP q_433 dX0_bare_6 ?_
    refine lv_iconst (v := Int32.ofInt (1 : Int)) hx hb dX0_bare_9 (by decide) ?_
    refine z_isub hx hb dX0_bare_10 ?_
    obtain ⟨h1, h⟩ := chk_at h
    obtain ⟨h2, h⟩ := chk_at h
    refine z_icmp_ge (tgt := 35) hx hb h1 h2 dX0_bare_11 (by decide) (fun hq => ?_) (fun hq => ?_)
    · replace h := if_yes hq h
      refine lv_lload_n hx hb dX0_bare_35 rfl (lv_at hl 1 rfl) ?_
      obtain rfl := Option.some.inj h
      exact hr _ _ _ _ dX0_bare_36 hP hS
    · replace h := if_no hq h
      refine lv_aload_n hx hb dX0_bare_14 rfl (lv_at hl 0 rfl) ?_
      refine gfWX_Cuts_quantity hc hP q_80 dX0_bare_15 ?_
      refine lv_iload_n hx hb dX0_bare_18 rfl (lv_at hl 2 rfl) ?_
      obtain ⟨h3, h⟩ := chk_at h
      refine azWX_Cuts_quantity hc hP h3 dX0_bare_19 ?_
      obtain ⟨h4, h⟩ := chk_at h
      refine z_if_ne (tgt := 29) hx hb h4 dX0_bare_20 (by decide) (fun hq => ?_) (fun hq => ?_)
      · replace h := if_no hq h
        obtain ⟨x5, ex5⟩ : ∃ y : Int, y = v3 + (1 : Int) := ⟨_, rfl⟩
        replace h := olet_at ex5 h
        refine lv_iinc (v := Int32.ofInt x5) (lv' := [(3, .int (Int32.ofInt x5)), (0, .ref (a 4)), (1, .long (Int64.ofInt v1))]) hx hb dX0_bare_29 hl (k := 2) rfl (by rw [ex5, Int32.ofInt_add]) (by decide) rfl (fun ls hl => ?_)
        refine lv_goto (tgt := 4) hx hb dX0_bare_32 (by decide) ?_
        exact ih S v1 x5 h H locs ls hP hS (lv_sub hl [1, 2, 0] rfl)
      · replace h := if_yes hq h
        refine lv_lload_n hx hb dX0_bare_23 rfl (lv_at hl 1 rfl) ?_
        refine lv_lconst (v := Int64.ofInt (1 : Int)) hx hb dX0_bare_24 (by decide) ?_
        refine lv_iload_n hx hb dX0_bare_25 rfl (lv_at hl 2 rfl) ?_
        refine z_lshl hx hb dX0_bare_26 ?_
        refine z_lor hx hb dX0_bare_27 ?_
        refine z_topl (fun x6 ex6 => ?_)
        replace h := olet_at ex6 h
        refine lv_lstore_n (lv' := [(1, .long (Int64.ofInt x6)), (0, .ref (a 4)), (3, .int (Int32.ofInt v3))]) hx hb dX0_bare_28 rfl hl (by decide) rfl (fun ls hl => ?_)
        obtain ⟨x7, ex7⟩ : ∃ y : Int, y = v3 + (1 : Int) := ⟨_, rfl⟩
        replace h := olet_at ex7 h
        refine lv_iinc (v := Int32.ofInt x7) (lv' := [(3, .int (Int32.ofInt x7)), (1, .long (Int64.ofInt x6)), (0, .ref (a 4))]) hx hb dX0_bare_29 hl (k := 2) rfl (by rw [ex7, Int32.ofInt_add]) (by decide) rfl (fun ls hl => ?_)
        refine lv_goto (tgt := 4) hx hb dX0_bare_32 (by decide) ?_
        exact ih S x6 x7 h H locs ls hP hS (lv_sub hl [2, 1, 0] rfl)
set_option maxHeartbeats 4000000 in
set_option maxRecDepth 100000 in
theorem t_X0_bare {z : SZ × Int} (hc : Cx p R s m args c D (tysWX g) A (WX a g) cX0_bare 4 RX0 0 0) (hr : Rtl p l e R s m args below meth c Q D A (WX a g) cX0_bare (em z.1, Int64.ofInt z.2)) : ∀ (S : SZ), f_X0_bare S = some z → Go p l e R s m args below meth c Q D A (WX a g) 4 (em S) 0 [(0, .ref (a 4))] [] := by
  obtain ⟨⟨hx, hb, hml, hown, hts⟩, -, -, -, hnf, hno⟩ := id hc
  intro S h H locs ls hP hS hl
  rw [f_X0_bare] at h
  replace hl : lv_has ls 4 [(0, .ref (a 4))] := hl
  refine lv_lconst (v := Int64.ofInt (0 : Int)) hx hb dX0_bare_0 (by decide) ?_
  refine lv_lstore_n (lv' := [(1, .long (Int64.ofInt (0 : Int))), (0, .ref (a 4))]) hx hb dX0_bare_1 rfl hl (by decide) rfl (fun ls hl => ?_)
  refine lv_iconst (v := Int32.ofInt (0 : Int)) hx hb dX0_bare_2 (by decide) ?_
  refine lv_istore_n (lv' := [(3, .int (Int32.ofInt (0 : Int))), (1, .long (Int64.ofInt (0 : Int))), (0, .ref (a 4))]) hx hb dX0_bare_3 rfl hl (by decide) rfl (fun ls hl => ?_)
  exact t_X0_bare_p4 hc hr FU S (0 : Int) (0 : Int) h H locs ls hP hS (lv_sub hl [2, 1, 0] rfl)
abbrev rm_X0_bare : Room := { frames := 0, cells := 0, slots := 0, locals := 0 }
theorem c_X0_bare {l : Launch} {D : va_G} {a : Nat → Nat} {g : Nat → ClassId} {S : SZ} {Z1 : SZ} {r1 : Int} (h : f_X0_bare S = some (Z1, r1)) : MetL l D (tysWX g) (WX a g) E0 yX0_bare cX0_bare 4 (some .long) rm_X0_bare [.ref (a 4)] (em S) (em Z1, Int64.ofInt r1) := mk_l (WX_same a g) (by decide) (em Z1, Int64.ofInt r1) (Nat.le_of_ble_eq_true rfl) (fun p e s m args below meth c A Q hc hE hr => t_X0_bare (z := (Z1, r1)) hc hr S h)
theorem k_X0_bare : CalV RX0 yX0_bare cX0_bare 4 (some .long) rm_X0_bare 0 := ⟨q_474, q_475, q_26, q_476, by decide +kernel, rfl, rfl⟩
set_option maxHeartbeats 4000000 in
set_option maxRecDepth 100000 in
theorem t_X0_load_p38 {z : SZ} (hc : Cx p R s m args c D (tysWX g) A (WX a g) cX0_load 5 RX0 3 87) (hr : Rtv p l e R s m args below meth c Q D A (WX a g) cX0_load (em z)) : ∀ (fu : Nat) (S : SZ) (v1 : Int) (v4 : Int), f_X0_load_p38 fu S v1 v4 = some z → Go p l e R s m args below meth c Q D A (WX a g) 5 (em S) 38 [(0, .ref (a 4)), (1, .int (Int32.ofInt v1)), (2, .ref (a 3)), (3, .ref (a 2)), (4, .int (Int32.ofInt v4))] [] := by
  obtain ⟨⟨hx, hb, hml, hown, hts⟩, -, -, -, hnf, hno⟩ := id hc
  intro fu
  induction fu with
  | zero =>
    intro S v1 v4 h
    rw [f_X0_load_p38] at h
    cases h
  | succ fu ih =>
    intro S v1 v4 h H locs ls hP hS hl
    rw [f_X0_load_p38] at h
    refine lv_iload hx hb dX0_load_38 (lv_at hl 4 rfl) ?_
    refine lv_aload_n hx hb dX0_load_40 rfl (lv_at hl 3 rfl) ?_
    refine gzWX_Sight_faces hc hP q_435 dX0_load_41 ?_
    obtain ⟨h1, h⟩ := chk_at h
    obtain ⟨h2, h⟩ := chk_at h
    refine z_icmp_ge (tgt := 72) hx hb h1 h2 dX0_load_44 (by decide) (fun hq => ?_) (fun hq => ?_)
    · replace h := if_yes hq h
      refine lv_aload_n hx hb dX0_load_72 rfl (lv_at hl 0 rfl) ?_
      obtain ⟨S3, hk4, h⟩ := ob1_at h
      refine cl_Vv (As := []) (rest := []) hc k_X0_countQuantities q_468 (c_X0_countQuantities hk4) hP hS (WX_4 a g (em S)) rfl rfl rfl hl (Nat.le_of_ble_eq_true rfl) dX0_load_73 (Nat.le_of_ble_eq_true rfl) (Nat.le_of_ble_eq_true rfl) rfl (fun H locs hP hS => ?_)
      refine lv_aload_n hx hb dX0_load_76 rfl (lv_at hl 0 rfl) ?_
      refine lv_aload_n hx hb dX0_load_77 rfl (lv_at hl 2 rfl) ?_
      refine gfWX_Edges_sort hc hP q_438 dX0_load_78 ?_
      refine lv_iload_n hx hb dX0_load_81 rfl (lv_at hl 1 rfl) ?_
      obtain ⟨h5, h⟩ := chk_at h
      refine azWX_Edges_sort hc hP h5 dX0_load_82 ?_
      refine lv_iconst (v := Int32.ofInt (2 : Int)) hx hb dX0_load_83 (by decide) ?_
      obtain ⟨h6, h⟩ := chk_at h
      refine z_icmp_ne (tgt := 91) hx hb h6 (by decide) dX0_load_84 (by decide) (fun hq => ?_) (fun hq => ?_)
      · replace h := if_no hq h
        refine lv_aload_n hx hb dX0_load_91 rfl (lv_at hl 0 rfl) ?_
        obtain ⟨S7, x9, hk8, h⟩ := ob2_at h
        refine cl_Vl (As := []) (rest := [.ref (a 4)]) hc k_X0_bare q_473 (c_X0_bare hk8) hP hS (WX_4 a g (em S3)) rfl rfl rfl hl (Nat.le_of_ble_eq_true rfl) dX0_load_92 (Nat.le_of_ble_eq_true rfl) (Nat.le_of_ble_eq_true rfl) rfl (fun H locs hP hS => ?_)
        refine pzWX_Cuts_visible hc hP hS q_439 dX0_load_95 (fun H locs hP hS => ?_)
        obtain ⟨S10, eS10⟩ : ∃ z, z = ul S7 0 x9 := ⟨_, rfl⟩
        replace h := olet_at eS10 h
        rw [← eS10] at hP
        refine lv_aload_n hx hb dX0_load_98 rfl (lv_at hl 0 rfl) ?_
        refine lv_iload_n hx hb dX0_load_99 rfl (lv_at hl 1 rfl) ?_
        refine pzWX_Cuts_loaded hc hP hS q_78 dX0_load_100 (fun H locs hP hS => ?_)
        obtain ⟨S11, eS11⟩ : ∃ z, z = ui S10 11 v1 := ⟨_, rfl⟩
        replace h := olet_at eS11 h
        rw [← eS11] at hP
        obtain rfl := Option.some.inj h
        exact hr _ _ _ _ dX0_load_103 hP hS
      · replace h := if_yes hq h
        refine lv_lconst (v := Int64.ofInt (0 : Int)) hx hb dX0_load_87 (by decide) ?_
        refine lv_goto (tgt := 95) hx hb dX0_load_88 (by decide) ?_
        refine pzWX_Cuts_visible hc hP hS q_439 dX0_load_95 (fun H locs hP hS => ?_)
        obtain ⟨S12, eS12⟩ : ∃ z, z = ul S3 0 (0 : Int) := ⟨_, rfl⟩
        replace h := olet_at eS12 h
        rw [← eS12] at hP
        refine lv_aload_n hx hb dX0_load_98 rfl (lv_at hl 0 rfl) ?_
        refine lv_iload_n hx hb dX0_load_99 rfl (lv_at hl 1 rfl) ?_
        refine pzWX_Cuts_loaded hc hP hS q_78 dX0_load_100 (fun H locs hP hS => ?_)
        obtain ⟨S13, eS13⟩ : ∃ z, z = ui S12 11 v1 := ⟨_, rfl⟩
        replace h := olet_at eS13 h
        rw [← eS13] at hP
        obtain rfl := Option.some.inj h
        exact hr _ _ _ _ dX0_load_103 hP hS
    · replace h := if_no hq h
      refine lv_aload_n hx hb dX0_load_47 rfl (lv_at hl 0 rfl) ?_
      refine lv_aload_n hx hb dX0_load_48 rfl (lv_at hl 3 rfl) ?_
      refine lv_aload_n hx hb dX0_load_49 rfl (lv_at hl 2 rfl) ?_
      refine gfWX_Edges_low hc hP q_436 dX0_load_50 ?_
      refine lv_iload_n hx hb dX0_load_53 rfl (lv_at hl 1 rfl) ?_
      obtain ⟨h14, h⟩ := chk_at h
      refine azWX_Edges_low hc hP h14 dX0_load_54 ?_
      refine lv_aload_n hx hb dX0_load_55 rfl (lv_at hl 2 rfl) ?_
      refine gfWX_Edges_high hc hP q_437 dX0_load_56 ?_
      refine lv_iload_n hx hb dX0_load_59 rfl (lv_at hl 1 rfl) ?_
      refine azWX_Edges_high hc hP h14 dX0_load_60 ?_
      refine lv_iload hx hb dX0_load_61 (lv_at hl 4 rfl) ?_
      obtain ⟨S15, hk16, h⟩ := ob1_at h
      refine cl_Vv (As := [.ref (a 2), .int (Int32.ofInt (za S 13 (v1).toNat)), .int (Int32.ofInt (za S 14 (v1).toNat)), .int (Int32.ofInt v4)]) (rest := []) hc k_X0_addStretch q_440 (c_X0_addStretch hk16) hP hS (WX_4 a g (em S)) rfl rfl rfl hl (Nat.le_of_ble_eq_true rfl) dX0_load_63 (Nat.le_of_ble_eq_true rfl) (Nat.le_of_ble_eq_true rfl) rfl (fun H locs hP hS => ?_)
      obtain ⟨x17, ex17⟩ : ∃ y : Int, y = v4 + (1 : Int) := ⟨_, rfl⟩
      replace h := olet_at ex17 h
      refine lv_iinc (v := Int32.ofInt x17) (lv' := [(4, .int (Int32.ofInt x17)), (0, .ref (a 4)), (1, .int (Int32.ofInt v1)), (2, .ref (a 3)), (3, .ref (a 2))]) hx hb dX0_load_66 hl (k := 4) rfl (by rw [ex17, Int32.ofInt_add]) (by decide) rfl (fun ls hl => ?_)
      refine lv_goto (tgt := 38) hx hb dX0_load_69 (by decide) ?_
      exact ih S15 v1 x17 h H locs ls hP hS (lv_sub hl [1, 2, 3, 4, 0] rfl)
set_option maxHeartbeats 4000000 in
set_option maxRecDepth 100000 in
theorem t_X0_load {z : SZ} (hc : Cx p R s m args c D (tysWX g) A (WX a g) cX0_load 5 RX0 3 87) (hr : Rtv p l e R s m args below meth c Q D A (WX a g) cX0_load (em z)) : ∀ (S : SZ) (v1 : Int), f_X0_load S v1 = some z → Go p l e R s m args below meth c Q D A (WX a g) 5 (em S) 0 [(0, .ref (a 4)), (1, .int (Int32.ofInt v1)), (2, .ref (a 3)), (3, .ref (a 2))] [] := by
  obtain ⟨⟨hx, hb, hml, hown, hts⟩, -, -, -, hnf, hno⟩ := id hc
  intro S v1 h H locs ls hP hS hl
  rw [f_X0_load] at h
  replace hl : lv_has ls 5 [(0, .ref (a 4)), (1, .int (Int32.ofInt v1)), (2, .ref (a 3)), (3, .ref (a 2))] := hl
  refine lv_aload_n hx hb dX0_load_0 rfl (lv_at hl 0 rfl) ?_
  refine gzWX_Cuts_loaded hc hP q_78 dX0_load_1 ?_
  refine lv_iload_n hx hb dX0_load_4 rfl (lv_at hl 1 rfl) ?_
  obtain ⟨h1, h⟩ := chk_at h
  obtain ⟨h2, h⟩ := chk_at h
  refine z_icmp_ne (tgt := 9) hx hb h1 h2 dX0_load_5 (by decide) (fun hq => ?_) (fun hq => ?_)
  · replace h := if_no hq h
    refine lv_aload_n hx hb dX0_load_9 rfl (lv_at hl 0 rfl) ?_
    refine gfWX_Cuts_at hc hP q_79 dX0_load_10 ?_
    refine lv_iconst (v := Int32.ofInt (0 : Int)) hx hb dX0_load_13 (by decide) ?_
    refine lv_lconst (v := Int64.ofInt (1 : Int)) hx hb dX0_load_14 (by decide) ?_
    obtain ⟨h3, h⟩ := chk_at h
    refine szWX_Cuts_at hc hP hS h3 dX0_load_15 (fun H locs hP hS => ?_)
    obtain ⟨S4, eS4⟩ : ∃ z, z = ub S 2 ((0 : Int)).toNat (1 : Int) := ⟨_, rfl⟩
    replace h := olet_at eS4 h
    rw [← eS4] at hP
    refine lv_aload_n hx hb dX0_load_16 rfl (lv_at hl 0 rfl) ?_
    refine gfWX_Cuts_at hc hP q_79 dX0_load_17 ?_
    refine lv_iconst (v := Int32.ofInt (1 : Int)) hx hb dX0_load_20 (by decide) ?_
    refine lv_ldc2 (v := Int64.ofInt (4294967297 : Int)) hx hb hown (by have h9 := hts _ q_432; rwa [show (4294967297 : Int64) = Int64.ofInt (4294967297 : Int) by decide] at h9) dX0_load_21 ?_
    obtain ⟨h5, h⟩ := chk_at h
    refine szWX_Cuts_at hc hP hS h5 dX0_load_24 (fun H locs hP hS => ?_)
    obtain ⟨S6, eS6⟩ : ∃ z, z = ub S4 2 ((1 : Int)).toNat (4294967297 : Int) := ⟨_, rfl⟩
    replace h := olet_at eS6 h
    rw [← eS6] at hP
    refine lv_aload_n hx hb dX0_load_25 rfl (lv_at hl 0 rfl) ?_
    refine lv_iconst (v := Int32.ofInt (2 : Int)) hx hb dX0_load_26 (by decide) ?_
    refine pzWX_Cuts_count hc hP hS q_433 dX0_load_27 (fun H locs hP hS => ?_)
    obtain ⟨S7, eS7⟩ : ∃ z, z = ui S6 12 (2 : Int) := ⟨_, rfl⟩
    replace h := olet_at eS7 h
    rw [← eS7] at hP
    refine lv_aload_n hx hb dX0_load_30 rfl (lv_at hl 0 rfl) ?_
    refine lv_iconst (v := Int32.ofInt (0 : Int)) hx hb dX0_load_31 (by decide) ?_
    refine pzWX_Cuts_stretches hc hP hS q_434 dX0_load_32 (fun H locs hP hS => ?_)
    obtain ⟨S8, eS8⟩ : ∃ z, z = ui S7 10 (0 : Int) := ⟨_, rfl⟩
    replace h := olet_at eS8 h
    rw [← eS8] at hP
    refine lv_iconst (v := Int32.ofInt (0 : Int)) hx hb dX0_load_35 (by decide) ?_
    refine lv_istore (lv' := [(4, .int (Int32.ofInt (0 : Int))), (0, .ref (a 4)), (1, .int (Int32.ofInt v1)), (2, .ref (a 3)), (3, .ref (a 2))]) hx hb dX0_load_36 hl (by decide) rfl (fun ls hl => ?_)
    exact t_X0_load_p38 hc hr FU S8 v1 (0 : Int) h H locs ls hP hS (lv_sub hl [1, 2, 3, 4, 0] rfl)
  · replace h := if_yes hq h
    obtain rfl := Option.some.inj h
    exact hr _ _ _ _ dX0_load_8 hP hS
abbrev rm_X0_load : Room := { frames := 3, cells := 0, slots := 0, locals := 87 }
theorem c_X0_load {l : Launch} {D : va_G} {a : Nat → Nat} {g : Nat → ClassId} {S : SZ} {v1 : Int} {z : SZ} (h : f_X0_load S v1 = some z) : MetV l D (tysWX g) (WX a g) E0 yX0_load cX0_load 5 none rm_X0_load [.ref (a 4), .int (Int32.ofInt v1), .ref (a 3), .ref (a 2)] (em S) (em z) := mk_v (WX_same a g) (by decide) (em z) (Nat.le_of_ble_eq_true rfl) (fun p e s m args below meth c A Q hc hE hr => t_X0_load (z := z) hc hr S v1 h)
theorem k_X0_load : CalV RX0 yX0_load cX0_load 5 none rm_X0_load 3 := ⟨q_429, q_430, q_26, q_431, by decide +kernel, rfl, rfl⟩
set_option maxHeartbeats 4000000 in
set_option maxRecDepth 100000 in
theorem t_X0_pieceCount {z : SZ × Int} (hc : Cx p R s m args c D (tysWX g) A (WX a g) cX0_pieceCount 1 RX0 0 0) (hr : Rti p l e R s m args below meth c Q D A (WX a g) cX0_pieceCount (em z.1, Int32.ofInt z.2)) : ∀ (S : SZ), f_X0_pieceCount S = some z → Go p l e R s m args below meth c Q D A (WX a g) 1 (em S) 0 [(0, .ref (a 4))] [] := by
  obtain ⟨⟨hx, hb, hml, hown, hts⟩, -, -, -, hnf, hno⟩ := id hc
  intro S h H locs ls hP hS hl
  rw [f_X0_pieceCount] at h
  replace hl : lv_has ls 1 [(0, .ref (a 4))] := hl
  refine lv_aload_n hx hb dX0_pieceCount_0 rfl (lv_at hl 0 rfl) ?_
  refine gzWX_Cuts_count hc hP q_433 dX0_pieceCount_1 ?_
  refine lv_iconst (v := Int32.ofInt (1 : Int)) hx hb dX0_pieceCount_4 (by decide) ?_
  refine z_isub hx hb dX0_pieceCount_5 ?_
  obtain rfl := Option.some.inj h
  exact hr _ _ _ _ dX0_pieceCount_6 hP hS
abbrev rm_X0_pieceCount : Room := { frames := 0, cells := 0, slots := 0, locals := 0 }
theorem c_X0_pieceCount {l : Launch} {D : va_G} {a : Nat → Nat} {g : Nat → ClassId} {S : SZ} {Z1 : SZ} {r1 : Int} (h : f_X0_pieceCount S = some (Z1, r1)) : MetI l D (tysWX g) (WX a g) E0 yX0_pieceCount cX0_pieceCount 1 (some .int) rm_X0_pieceCount [.ref (a 4)] (em S) (em Z1, Int32.ofInt r1) := mk_i (WX_same a g) (by decide) (em Z1, Int32.ofInt r1) (Nat.le_of_ble_eq_true rfl) (fun p e s m args below meth c A Q hc hE hr => t_X0_pieceCount (z := (Z1, r1)) hc hr S h)
theorem k_X0_pieceCount : CalV RX0 yX0_pieceCount cX0_pieceCount 1 (some .int) rm_X0_pieceCount 0 := ⟨q_478, q_479, q_26, q_480, by decide +kernel, rfl, rfl⟩
end W
