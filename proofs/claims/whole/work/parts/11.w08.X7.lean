section W
variable {p : Program} {l : Launch} {e : Env} {R : Room} {s : State} {m : MethodId} {args : Array Value} {below : List Frame} {meth : Method} {c : Code} {Q : State → Prop} {D : va_G} {A : Nat → Prop} {a : Nat → Nat} {g : Nat → ClassId}
set_option maxHeartbeats 4000000 in
set_option maxRecDepth 100000 in
theorem t_X7_isLeft {z : SZ × Int} (hc : Cx p R s m args c D (tysWX g) A (WX a g) cX7_isLeft 3 RX7 0 0) (hr : Rtz p l e R s m args below meth c Q D A (WX a g) cX7_isLeft (em z.1, Int32.ofInt z.2)) : ∀ (S : SZ) (v1 : Int) (v2 : Int), f_X7_isLeft S v1 v2 = some z → Go p l e R s m args below meth c Q D A (WX a g) 3 (em S) 0 [(0, .ref (a 6)), (1, .int (Int32.ofInt v1)), (2, .int (Int32.ofInt v2))] [] := by
  obtain ⟨⟨hx, hb, hml, hown, hts⟩, -, -, -, hnf, hno⟩ := id hc
  intro S v1 v2 h H locs ls hP hS hl
  rw [f_X7_isLeft] at h
  replace hl : lv_has ls 3 [(0, .ref (a 6)), (1, .int (Int32.ofInt v1)), (2, .int (Int32.ofInt v2))] := hl
  refine lv_aload_n hx hb dX7_isLeft_0 rfl (lv_at hl 0 rfl) ?_
  refine gfWX_Strokes_left hc hP q_89 dX7_isLeft_1 ?_
  refine lv_iload_n hx hb dX7_isLeft_4 rfl (lv_at hl 1 rfl) ?_
  obtain ⟨h1, h⟩ := chk_at h
  refine azWX_Strokes_left hc hP h1 dX7_isLeft_5 ?_
  refine lv_iload_n hx hb dX7_isLeft_6 rfl (lv_at hl 2 rfl) ?_
  refine z_lshr hx hb dX7_isLeft_7 ?_
  refine lv_lconst (v := Int64.ofInt (1 : Int)) hx hb dX7_isLeft_8 (by decide) ?_
  refine z_land hx hb dX7_isLeft_9 ?_
  refine lv_lconst (v := Int64.ofInt (1 : Int)) hx hb dX7_isLeft_10 (by decide) ?_
  refine W.lcmp hx hb dX7_isLeft_11 ?_
  obtain ⟨h2, h⟩ := chk_at h
  refine zc_if_ne (tgt := 19) hx hb h2 (by decide) dX7_isLeft_12 (by decide) (fun hq => ?_) (fun hq => ?_)
  · replace h := if_no hq h
    refine lv_iconst (v := Int32.ofInt (0 : Int)) hx hb dX7_isLeft_19 (by decide) ?_
    obtain rfl := Option.some.inj h
    exact hr (bit_of (Or.inl rfl)) _ _ _ _ dX7_isLeft_20 hP hS
  · replace h := if_yes hq h
    refine lv_iconst (v := Int32.ofInt (1 : Int)) hx hb dX7_isLeft_15 (by decide) ?_
    refine lv_goto (tgt := 20) hx hb dX7_isLeft_16 (by decide) ?_
    obtain rfl := Option.some.inj h
    exact hr (bit_of (Or.inr rfl)) _ _ _ _ dX7_isLeft_20 hP hS
abbrev rm_X7_isLeft : Room := { frames := 0, cells := 0, slots := 0, locals := 0 }
theorem c_X7_isLeft {l : Launch} {D : va_G} {a : Nat → Nat} {g : Nat → ClassId} {S : SZ} {v1 : Int} {v2 : Int} {Z1 : SZ} {r1 : Int} (h : f_X7_isLeft S v1 v2 = some (Z1, r1)) : MetI l D (tysWX g) (WX a g) E0 yX7_isLeft cX7_isLeft 3 (some .boolean) rm_X7_isLeft [.ref (a 6), .int (Int32.ofInt v1), .int (Int32.ofInt v2)] (em S) (em Z1, Int32.ofInt r1) := mk_z (WX_same a g) (by decide) (em Z1, Int32.ofInt r1) (Nat.le_of_ble_eq_true rfl) (fun p e s m args below meth c A Q hc hE hr => t_X7_isLeft (z := (Z1, r1)) hc hr S v1 v2 h)
theorem k_X7_isLeft : CalV RX7 yX7_isLeft cX7_isLeft 3 (some .boolean) rm_X7_isLeft 2 := ⟨q_498, q_499, q_34, q_500, by decide +kernel, rfl, rfl⟩
set_option maxHeartbeats 4000000 in
set_option maxRecDepth 100000 in
theorem t_X7_stepOf {z : SZ × Int} (hc : Cx p R s m args c D (tysWX g) A (WX a g) cX7_stepOf 3 RX7 0 0) (hr : Rti p l e R s m args below meth c Q D A (WX a g) cX7_stepOf (em z.1, Int32.ofInt z.2)) : ∀ (S : SZ) (v0 : Int) (v1 : Int) (v2 : Int), f_X7_stepOf S v0 v1 v2 = some z → Go p l e R s m args below meth c Q D A (WX a g) 3 (em S) 0 [(0, .int (Int32.ofInt v0)), (1, .int (Int32.ofInt v1)), (2, .int (Int32.ofInt v2))] [] := by
  obtain ⟨⟨hx, hb, hml, hown, hts⟩, -, -, -, hnf, hno⟩ := id hc
  intro S v0 v1 v2 h H locs ls hP hS hl
  rw [f_X7_stepOf] at h
  replace hl : lv_has ls 3 [(0, .int (Int32.ofInt v0)), (1, .int (Int32.ofInt v1)), (2, .int (Int32.ofInt v2))] := hl
  refine lv_iload_n hx hb dX7_stepOf_0 rfl (lv_at hl 0 rfl) ?_
  refine lv_bipush (v := Int32.ofInt (7 : Int)) hx hb dX7_stepOf_1 (by decide) ?_
  refine z_ishl hx hb dX7_stepOf_3 ?_
  refine lv_iload_n hx hb dX7_stepOf_4 rfl (lv_at hl 1 rfl) ?_
  refine lv_iconst (v := Int32.ofInt (1 : Int)) hx hb dX7_stepOf_5 (by decide) ?_
  refine z_ishl hx hb dX7_stepOf_6 ?_
  refine z_ior hx hb dX7_stepOf_7 ?_
  refine lv_iload_n hx hb dX7_stepOf_8 rfl (lv_at hl 2 rfl) ?_
  obtain ⟨h1, h⟩ := chk_at h
  refine z_if_eq (tgt := 16) hx hb h1 dX7_stepOf_9 (by decide) (fun hq => ?_) (fun hq => ?_)
  · replace h := if_yes hq h
    refine lv_iconst (v := Int32.ofInt (0 : Int)) hx hb dX7_stepOf_16 (by decide) ?_
    refine z_ior hx hb dX7_stepOf_17 ?_
    obtain rfl := Option.some.inj h
    exact hr _ _ _ _ dX7_stepOf_18 hP hS
  · replace h := if_no hq h
    refine lv_iconst (v := Int32.ofInt (1 : Int)) hx hb dX7_stepOf_12 (by decide) ?_
    refine lv_goto (tgt := 17) hx hb dX7_stepOf_13 (by decide) ?_
    refine z_ior hx hb dX7_stepOf_17 ?_
    obtain rfl := Option.some.inj h
    exact hr _ _ _ _ dX7_stepOf_18 hP hS
abbrev rm_X7_stepOf : Room := { frames := 0, cells := 0, slots := 0, locals := 0 }
theorem c_X7_stepOf {l : Launch} {D : va_G} {a : Nat → Nat} {g : Nat → ClassId} {S : SZ} {v0 : Int} {v1 : Int} {v2 : Int} {Z1 : SZ} {r1 : Int} (h : f_X7_stepOf S v0 v1 v2 = some (Z1, r1)) : MetI l D (tysWX g) (WX a g) E0 yX7_stepOf cX7_stepOf 3 (some .int) rm_X7_stepOf [.int (Int32.ofInt v0), .int (Int32.ofInt v1), .int (Int32.ofInt v2)] (em S) (em Z1, Int32.ofInt r1) := mk_i (WX_same a g) (by decide) (em Z1, Int32.ofInt r1) (Nat.le_of_ble_eq_true rfl) (fun p e s m args below meth c A Q hc hE hr => t_X7_stepOf (z := (Z1, r1)) hc hr S v0 v1 v2 h)
theorem k_X7_stepOf : CalS yX7_stepOf cX7_stepOf 3 (some .int) rm_X7_stepOf 3 := ⟨q_502, q_34, q_503, by decide +kernel, rfl, rfl⟩
set_option maxHeartbeats 4000000 in
set_option maxRecDepth 100000 in
theorem t_X7_edgeOf {z : SZ × Int} (hc : Cx p R s m args c D (tysWX g) A (WX a g) cX7_edgeOf 1 RX7 0 0) (hr : Rti p l e R s m args below meth c Q D A (WX a g) cX7_edgeOf (em z.1, Int32.ofInt z.2)) : ∀ (S : SZ) (v0 : Int), f_X7_edgeOf S v0 = some z → Go p l e R s m args below meth c Q D A (WX a g) 1 (em S) 0 [(0, .int (Int32.ofInt v0))] [] := by
  obtain ⟨⟨hx, hb, hml, hown, hts⟩, -, -, -, hnf, hno⟩ := id hc
  intro S v0 h H locs ls hP hS hl
  rw [f_X7_edgeOf] at h
  replace hl : lv_has ls 1 [(0, .int (Int32.ofInt v0))] := hl
  refine lv_iload_n hx hb dX7_edgeOf_0 rfl (lv_at hl 0 rfl) ?_
  refine lv_bipush (v := Int32.ofInt (7 : Int)) hx hb dX7_edgeOf_1 (by decide) ?_
  refine z_ishr hx hb dX7_edgeOf_3 ?_
  obtain rfl := Option.some.inj h
  exact hr _ _ _ _ dX7_edgeOf_4 hP hS
abbrev rm_X7_edgeOf : Room := { frames := 0, cells := 0, slots := 0, locals := 0 }
theorem c_X7_edgeOf {l : Launch} {D : va_G} {a : Nat → Nat} {g : Nat → ClassId} {S : SZ} {v0 : Int} {Z1 : SZ} {r1 : Int} (h : f_X7_edgeOf S v0 = some (Z1, r1)) : MetI l D (tysWX g) (WX a g) E0 yX7_edgeOf cX7_edgeOf 1 (some .int) rm_X7_edgeOf [.int (Int32.ofInt v0)] (em S) (em Z1, Int32.ofInt r1) := mk_i (WX_same a g) (by decide) (em Z1, Int32.ofInt r1) (Nat.le_of_ble_eq_true rfl) (fun p e s m args below meth c A Q hc hE hr => t_X7_edgeOf (z := (Z1, r1)) hc hr S v0 h)
theorem k_X7_edgeOf : CalS yX7_edgeOf cX7_edgeOf 1 (some .int) rm_X7_edgeOf 1 := ⟨q_510, q_34, q_511, by decide +kernel, rfl, rfl⟩
set_option maxHeartbeats 4000000 in
set_option maxRecDepth 100000 in
theorem t_X7_pieceOf {z : SZ × Int} (hc : Cx p R s m args c D (tysWX g) A (WX a g) cX7_pieceOf 1 RX7 0 0) (hr : Rti p l e R s m args below meth c Q D A (WX a g) cX7_pieceOf (em z.1, Int32.ofInt z.2)) : ∀ (S : SZ) (v0 : Int), f_X7_pieceOf S v0 = some z → Go p l e R s m args below meth c Q D A (WX a g) 1 (em S) 0 [(0, .int (Int32.ofInt v0))] [] := by
  obtain ⟨⟨hx, hb, hml, hown, hts⟩, -, -, -, hnf, hno⟩ := id hc
  intro S v0 h H locs ls hP hS hl
  rw [f_X7_pieceOf] at h
  replace hl : lv_has ls 1 [(0, .int (Int32.ofInt v0))] := hl
  refine lv_iload_n hx hb dX7_pieceOf_0 rfl (lv_at hl 0 rfl) ?_
  refine lv_iconst (v := Int32.ofInt (1 : Int)) hx hb dX7_pieceOf_1 (by decide) ?_
  refine z_ishr hx hb dX7_pieceOf_2 ?_
  refine lv_bipush (v := Int32.ofInt (63 : Int)) hx hb dX7_pieceOf_3 (by decide) ?_
  refine z_iand hx hb dX7_pieceOf_5 ?_
  obtain rfl := Option.some.inj h
  exact hr _ _ _ _ dX7_pieceOf_6 hP hS
abbrev rm_X7_pieceOf : Room := { frames := 0, cells := 0, slots := 0, locals := 0 }
theorem c_X7_pieceOf {l : Launch} {D : va_G} {a : Nat → Nat} {g : Nat → ClassId} {S : SZ} {v0 : Int} {Z1 : SZ} {r1 : Int} (h : f_X7_pieceOf S v0 = some (Z1, r1)) : MetI l D (tysWX g) (WX a g) E0 yX7_pieceOf cX7_pieceOf 1 (some .int) rm_X7_pieceOf [.int (Int32.ofInt v0)] (em S) (em Z1, Int32.ofInt r1) := mk_i (WX_same a g) (by decide) (em Z1, Int32.ofInt r1) (Nat.le_of_ble_eq_true rfl) (fun p e s m args below meth c A Q hc hE hr => t_X7_pieceOf (z := (Z1, r1)) hc hr S v0 h)
theorem k_X7_pieceOf : CalS yX7_pieceOf cX7_pieceOf 1 (some .int) rm_X7_pieceOf 1 := ⟨q_513, q_34, q_514, by decide +kernel, rfl, rfl⟩
set_option maxHeartbeats 4000000 in
set_option maxRecDepth 100000 in
theorem t_X7_isForward {z : SZ × Int} (hc : Cx p R s m args c D (tysWX g) A (WX a g) cX7_isForward 1 RX7 0 0) (hr : Rtz p l e R s m args below meth c Q D A (WX a g) cX7_isForward (em z.1, Int32.ofInt z.2)) : ∀ (S : SZ) (v0 : Int), f_X7_isForward S v0 = some z → Go p l e R s m args below meth c Q D A (WX a g) 1 (em S) 0 [(0, .int (Int32.ofInt v0))] [] := by
  obtain ⟨⟨hx, hb, hml, hown, hts⟩, -, -, -, hnf, hno⟩ := id hc
  intro S v0 h H locs ls hP hS hl
  rw [f_X7_isForward] at h
  replace hl : lv_has ls 1 [(0, .int (Int32.ofInt v0))] := hl
  refine lv_iload_n hx hb dX7_isForward_0 rfl (lv_at hl 0 rfl) ?_
  refine lv_iconst (v := Int32.ofInt (1 : Int)) hx hb dX7_isForward_1 (by decide) ?_
  refine z_iand hx hb dX7_isForward_2 ?_
  refine lv_iconst (v := Int32.ofInt (1 : Int)) hx hb dX7_isForward_3 (by decide) ?_
  obtain ⟨h1, h⟩ := chk_at h
  refine z_icmp_ne (tgt := 11) hx hb h1 (by decide) dX7_isForward_4 (by decide) (fun hq => ?_) (fun hq => ?_)
  · replace h := if_no hq h
    refine lv_iconst (v := Int32.ofInt (0 : Int)) hx hb dX7_isForward_11 (by decide) ?_
    obtain rfl := Option.some.inj h
    exact hr (bit_of (Or.inl rfl)) _ _ _ _ dX7_isForward_12 hP hS
  · replace h := if_yes hq h
    refine lv_iconst (v := Int32.ofInt (1 : Int)) hx hb dX7_isForward_7 (by decide) ?_
    refine lv_goto (tgt := 12) hx hb dX7_isForward_8 (by decide) ?_
    obtain rfl := Option.some.inj h
    exact hr (bit_of (Or.inr rfl)) _ _ _ _ dX7_isForward_12 hP hS
abbrev rm_X7_isForward : Room := { frames := 0, cells := 0, slots := 0, locals := 0 }
theorem c_X7_isForward {l : Launch} {D : va_G} {a : Nat → Nat} {g : Nat → ClassId} {S : SZ} {v0 : Int} {Z1 : SZ} {r1 : Int} (h : f_X7_isForward S v0 = some (Z1, r1)) : MetI l D (tysWX g) (WX a g) E0 yX7_isForward cX7_isForward 1 (some .boolean) rm_X7_isForward [.int (Int32.ofInt v0)] (em S) (em Z1, Int32.ofInt r1) := mk_z (WX_same a g) (by decide) (em Z1, Int32.ofInt r1) (Nat.le_of_ble_eq_true rfl) (fun p e s m args below meth c A Q hc hE hr => t_X7_isForward (z := (Z1, r1)) hc hr S v0 h)
theorem k_X7_isForward : CalS yX7_isForward cX7_isForward 1 (some .boolean) rm_X7_isForward 1 := ⟨q_521, q_34, q_522, by decide +kernel, rfl, rfl⟩
set_option maxHeartbeats 4000000 in
set_option maxRecDepth 100000 in
theorem t_X7_pointBehind {z : SZ × Int} (hc : Cx p R s m args c D (tysWX g) A (WX a g) cX7_pointBehind 5 RX7 1 20) (hr : Rti p l e R s m args below meth c Q D A (WX a g) cX7_pointBehind (em z.1, Int32.ofInt z.2)) : ∀ (S : SZ) (v0 : Int), f_X7_pointBehind S v0 = some z → Go p l e R s m args below meth c Q D A (WX a g) 5 (em S) 0 [(0, .int (Int32.ofInt v0)), (1, .ref (a 3)), (2, .ref (a 5))] [] := by
  obtain ⟨⟨hx, hb, hml, hown, hts⟩, -, -, -, hnf, hno⟩ := id hc
  intro S v0 h H locs ls hP hS hl
  rw [f_X7_pointBehind] at h
  replace hl : lv_has ls 5 [(0, .int (Int32.ofInt v0)), (1, .ref (a 3)), (2, .ref (a 5))] := hl
  refine lv_iload_n hx hb dX7_pointBehind_0 rfl (lv_at hl 0 rfl) ?_
  obtain ⟨S1, x3, hk2, h⟩ := ob2_at h
  refine cl_Si (As := [.int (Int32.ofInt v0)]) (rest := []) hc k_X7_edgeOf q_509 (c_X7_edgeOf hk2) hP hS rfl hl (Nat.le_of_ble_eq_true rfl) dX7_pointBehind_1 (Nat.le_of_ble_eq_true rfl) (Nat.le_of_ble_eq_true rfl) rfl (fun H locs hP hS => ?_)
  refine lv_istore_n (lv' := [(3, .int (Int32.ofInt x3)), (0, .int (Int32.ofInt v0)), (1, .ref (a 3)), (2, .ref (a 5))]) hx hb dX7_pointBehind_4 rfl hl (by decide) rfl (fun ls hl => ?_)
  refine lv_iload_n hx hb dX7_pointBehind_5 rfl (lv_at hl 1 rfl) ?_
  obtain ⟨S4, x6, hk5, h⟩ := ob2_at h
  refine cl_Si (As := [.int (Int32.ofInt v0)]) (rest := []) hc k_X7_pieceOf q_512 (c_X7_pieceOf hk5) hP hS rfl hl (Nat.le_of_ble_eq_true rfl) dX7_pointBehind_6 (Nat.le_of_ble_eq_true rfl) (Nat.le_of_ble_eq_true rfl) rfl (fun H locs hP hS => ?_)
  refine lv_istore (lv' := [(4, .int (Int32.ofInt x6)), (3, .int (Int32.ofInt x3)), (0, .int (Int32.ofInt v0)), (1, .ref (a 3)), (2, .ref (a 5))]) hx hb dX7_pointBehind_9 hl (by decide) rfl (fun ls hl => ?_)
  refine lv_iload_n hx hb dX7_pointBehind_11 rfl (lv_at hl 2 rfl) ?_
  obtain ⟨S7, x9, hk8, h⟩ := ob2_at h
  refine cl_Si (As := [.int (Int32.ofInt v0)]) (rest := []) hc k_X7_isForward q_520 (c_X7_isForward hk8) hP hS rfl hl (Nat.le_of_ble_eq_true rfl) dX7_pointBehind_12 (Nat.le_of_ble_eq_true rfl) (Nat.le_of_ble_eq_true rfl) rfl (fun H locs hP hS => ?_)
  obtain ⟨h10, h⟩ := chk_at h
  refine z_if_eq (tgt := 43) hx hb h10 dX7_pointBehind_15 (by decide) (fun hq => ?_) (fun hq => ?_)
  · replace h := if_yes hq h
    refine lv_iload hx hb dX7_pointBehind_43 (lv_at hl 0 rfl) ?_
    obtain ⟨h11, h⟩ := chk_at h
    refine z_if_ne (tgt := 57) hx hb h11 dX7_pointBehind_45 (by decide) (fun hq => ?_) (fun hq => ?_)
    · replace h := if_no hq h
      refine lv_bipush (v := Int32.ofInt (-9 : Int)) hx hb dX7_pointBehind_57 (by decide) ?_
      obtain rfl := Option.some.inj h
      exact hr _ _ _ _ dX7_pointBehind_59 hP hS
    · replace h := if_yes hq h
      refine lv_aload_n hx hb dX7_pointBehind_48 rfl (lv_at hl 3 rfl) ?_
      refine gfWX_Edges_low hc hP q_519 dX7_pointBehind_49 ?_
      refine lv_iload_n hx hb dX7_pointBehind_52 rfl (lv_at hl 1 rfl) ?_
      obtain ⟨h12, h⟩ := chk_at h
      refine azWX_Edges_low hc hP h12 dX7_pointBehind_53 ?_
      refine lv_goto (tgt := 59) hx hb dX7_pointBehind_54 (by decide) ?_
      obtain rfl := Option.some.inj h
      exact hr _ _ _ _ dX7_pointBehind_59 hP hS
  · replace h := if_no hq h
    refine lv_iload hx hb dX7_pointBehind_18 (lv_at hl 0 rfl) ?_
    refine lv_aload_n hx hb dX7_pointBehind_20 rfl (lv_at hl 4 rfl) ?_
    refine gfWX_Pieces_count hc hP q_496 dX7_pointBehind_21 ?_
    refine lv_iload_n hx hb dX7_pointBehind_24 rfl (lv_at hl 1 rfl) ?_
    obtain ⟨h13, h⟩ := chk_at h
    refine azWX_Pieces_count hc hP h13 dX7_pointBehind_25 ?_
    refine lv_iconst (v := Int32.ofInt (1 : Int)) hx hb dX7_pointBehind_26 (by decide) ?_
    refine z_isub hx hb dX7_pointBehind_27 ?_
    obtain ⟨h14, h⟩ := chk_at h
    obtain ⟨h15, h⟩ := chk_at h
    refine z_icmp_ne (tgt := 40) hx hb h14 h15 dX7_pointBehind_28 (by decide) (fun hq => ?_) (fun hq => ?_)
    · replace h := if_no hq h
      refine lv_bipush (v := Int32.ofInt (-9 : Int)) hx hb dX7_pointBehind_40 (by decide) ?_
      obtain rfl := Option.some.inj h
      exact hr _ _ _ _ dX7_pointBehind_42 hP hS
    · replace h := if_yes hq h
      refine lv_aload_n hx hb dX7_pointBehind_31 rfl (lv_at hl 3 rfl) ?_
      refine gfWX_Edges_high hc hP q_518 dX7_pointBehind_32 ?_
      refine lv_iload_n hx hb dX7_pointBehind_35 rfl (lv_at hl 1 rfl) ?_
      refine azWX_Edges_high hc hP h13 dX7_pointBehind_36 ?_
      refine lv_goto (tgt := 42) hx hb dX7_pointBehind_37 (by decide) ?_
      obtain rfl := Option.some.inj h
      exact hr _ _ _ _ dX7_pointBehind_42 hP hS
abbrev rm_X7_pointBehind : Room := { frames := 1, cells := 0, slots := 0, locals := 20 }
theorem c_X7_pointBehind {l : Launch} {D : va_G} {a : Nat → Nat} {g : Nat → ClassId} {S : SZ} {v0 : Int} {Z1 : SZ} {r1 : Int} (h : f_X7_pointBehind S v0 = some (Z1, r1)) : MetI l D (tysWX g) (WX a g) E0 yX7_pointBehind cX7_pointBehind 5 (some .int) rm_X7_pointBehind [.int (Int32.ofInt v0), .ref (a 3), .ref (a 5)] (em S) (em Z1, Int32.ofInt r1) := mk_i (WX_same a g) (by decide) (em Z1, Int32.ofInt r1) (Nat.le_of_ble_eq_true rfl) (fun p e s m args below meth c A Q hc hE hr => t_X7_pointBehind (z := (Z1, r1)) hc hr S v0 h)
theorem k_X7_pointBehind : CalS yX7_pointBehind cX7_pointBehind 5 (some .int) rm_X7_pointBehind 3 := ⟨q_516, q_34, q_517, by decide +kernel, rfl, rfl⟩
set_option maxHeartbeats 4000000 in
set_option maxRecDepth 100000 in
theorem t_X7_stepFrom_p61 {z : SZ × Int} (hc : Cx p R s m args c D (tysWX g) A (WX a g) cX7_stepFrom 6 RX7 1 22) (hr : Rti p l e R s m args below meth c Q D A (WX a g) cX7_stepFrom (em z.1, Int32.ofInt z.2)) {k12 : SZ → Int → Int → Option (SZ × Int)} (K12 : ∀ (S : SZ) (v1 : Int) (v4 : Int), k12 S v1 v4 = some z → Go p l e R s m args below meth c Q D A (WX a g) 6 (em S) 12 [(0, .ref (a 6)), (1, .int (Int32.ofInt v1)), (2, .ref (a 3)), (3, .ref (a 5)), (4, .int (Int32.ofInt v4))] []) : ∀ (S : SZ) (v1 : Int) (v4 : Int) (v5 : Int), f_X7_stepFrom_p61 k12 S v1 v4 v5 = some z → Go p l e R s m args below meth c Q D A (WX a g) 6 (em S) 61 [(0, .ref (a 6)), (1, .int (Int32.ofInt v1)), (2, .ref (a 3)), (3, .ref (a 5)), (4, .int (Int32.ofInt v4)), (5, .int (Int32.ofInt v5))] [] := by
  obtain ⟨⟨hx, hb, hml, hown, hts⟩, -, -, -, hnf, hno⟩ := id hc
  intro S v1 v4 v5 h H locs ls hP hS hl
  rw [f_X7_stepFrom_p61] at h
  refine lv_aload_n hx hb dX7_stepFrom_61 rfl (lv_at hl 2 rfl) ?_
  refine gfWX_Edges_high hc hP q_518 dX7_stepFrom_62 ?_
  refine lv_iload hx hb dX7_stepFrom_65 (lv_at hl 4 rfl) ?_
  obtain ⟨h1, h⟩ := chk_at h
  refine azWX_Edges_high hc hP h1 dX7_stepFrom_67 ?_
  refine lv_iload_n hx hb dX7_stepFrom_68 rfl (lv_at hl 1 rfl) ?_
  obtain ⟨h2, h⟩ := chk_at h
  obtain ⟨h3, h⟩ := chk_at h
  refine z_icmp_ne (tgt := 92) hx hb h2 h3 dX7_stepFrom_69 (by decide) (fun hq => ?_) (fun hq => ?_)
  · replace h := if_no hq h
    obtain ⟨x4, ex4⟩ : ∃ y : Int, y = v4 + (1 : Int) := ⟨_, rfl⟩
    replace h := olet_at ex4 h
    refine lv_iinc (v := Int32.ofInt x4) (lv' := [(4, .int (Int32.ofInt x4)), (0, .ref (a 6)), (1, .int (Int32.ofInt v1)), (2, .ref (a 3)), (3, .ref (a 5)), (5, .int (Int32.ofInt v5))]) hx hb dX7_stepFrom_92 hl (k := 4) rfl (by rw [ex4, Int32.ofInt_add]) (by decide) rfl (fun ls hl => ?_)
    refine lv_goto (tgt := 12) hx hb dX7_stepFrom_95 (by decide) ?_
    exact K12 S v1 x4 h H locs ls hP hS (lv_sub hl [1, 2, 3, 4, 0] rfl)
  · replace h := if_yes hq h
    refine lv_aload_n hx hb dX7_stepFrom_72 rfl (lv_at hl 0 rfl) ?_
    refine lv_iload hx hb dX7_stepFrom_73 (lv_at hl 4 rfl) ?_
    refine lv_iload hx hb dX7_stepFrom_75 (lv_at hl 5 rfl) ?_
    obtain ⟨S5, x7, hk6, h⟩ := ob2_at h
    refine cl_Vi (As := [.int (Int32.ofInt v4), .int (Int32.ofInt v5)]) (rest := []) hc k_X7_isLeft q_497 (c_X7_isLeft hk6) hP hS (WX_6 a g (em S)) rfl rfl rfl hl (Nat.le_of_ble_eq_true rfl) dX7_stepFrom_77 (Nat.le_of_ble_eq_true rfl) (Nat.le_of_ble_eq_true rfl) rfl (fun H locs hP hS => ?_)
    obtain ⟨h8, h⟩ := chk_at h
    refine z_if_eq (tgt := 92) hx hb h8 dX7_stepFrom_80 (by decide) (fun hq => ?_) (fun hq => ?_)
    · replace h := if_yes hq h
      obtain ⟨x9, ex9⟩ : ∃ y : Int, y = v4 + (1 : Int) := ⟨_, rfl⟩
      replace h := olet_at ex9 h
      refine lv_iinc (v := Int32.ofInt x9) (lv' := [(4, .int (Int32.ofInt x9)), (0, .ref (a 6)), (1, .int (Int32.ofInt v1)), (2, .ref (a 3)), (3, .ref (a 5)), (5, .int (Int32.ofInt v5))]) hx hb dX7_stepFrom_92 hl (k := 4) rfl (by rw [ex9, Int32.ofInt_add]) (by decide) rfl (fun ls hl => ?_)
      refine lv_goto (tgt := 12) hx hb dX7_stepFrom_95 (by decide) ?_
      exact K12 S5 v1 x9 h H locs ls hP hS (lv_sub hl [1, 2, 3, 4, 0] rfl)
    · replace h := if_no hq h
      refine lv_iload hx hb dX7_stepFrom_83 (lv_at hl 4 rfl) ?_
      refine lv_iload hx hb dX7_stepFrom_85 (lv_at hl 5 rfl) ?_
      refine lv_iconst (v := Int32.ofInt (0 : Int)) hx hb dX7_stepFrom_87 (by decide) ?_
      obtain ⟨S10, x12, hk11, h⟩ := ob2_at h
      refine cl_Si (As := [.int (Int32.ofInt v4), .int (Int32.ofInt v5), .int (Int32.ofInt (0 : Int))]) (rest := []) hc k_X7_stepOf q_501 (c_X7_stepOf hk11) hP hS rfl hl (Nat.le_of_ble_eq_true rfl) dX7_stepFrom_88 (Nat.le_of_ble_eq_true rfl) (Nat.le_of_ble_eq_true rfl) rfl (fun H locs hP hS => ?_)
      obtain rfl := Option.some.inj h
      exact hr _ _ _ _ dX7_stepFrom_91 hP hS
set_option maxHeartbeats 4000000 in
set_option maxRecDepth 100000 in
theorem t_X7_stepFrom_p12 {z : SZ × Int} (hc : Cx p R s m args c D (tysWX g) A (WX a g) cX7_stepFrom 6 RX7 1 22) (hr : Rti p l e R s m args below meth c Q D A (WX a g) cX7_stepFrom (em z.1, Int32.ofInt z.2)) : ∀ (fu : Nat) (S : SZ) (v1 : Int) (v4 : Int), f_X7_stepFrom_p12 fu S v1 v4 = some z → Go p l e R s m args below meth c Q D A (WX a g) 6 (em S) 12 [(0, .ref (a 6)), (1, .int (Int32.ofInt v1)), (2, .ref (a 3)), (3, .ref (a 5)), (4, .int (Int32.ofInt v4))] [] := by
  obtain ⟨⟨hx, hb, hml, hown, hts⟩, -, -, -, hnf, hno⟩ := id hc
  intro fu
  induction fu with
  | zero =>
    intro S v1 v4 h
    rw [f_X7_stepFrom_p12] at h
    cases h
  | succ fu ih =>
    intro S v1 v4 h H locs ls hP hS hl
    rw [f_X7_stepFrom_p12] at h
    refine lv_iload hx hb dX7_stepFrom_12 (lv_at hl 4 rfl) ?_
    refine lv_aload_n hx hb dX7_stepFrom_14 rfl (lv_at hl 2 rfl) ?_
    refine gzWX_Edges_count hc hP q_494 dX7_stepFrom_15 ?_
    obtain ⟨h1, h⟩ := chk_at h
    obtain ⟨h2, h⟩ := chk_at h
    refine z_icmp_ge (tgt := 98) hx hb h1 h2 dX7_stepFrom_18 (by decide) (fun hq => ?_) (fun hq => ?_)
    · replace h := if_yes hq h
      refine lv_bipush (v := Int32.ofInt (-9 : Int)) hx hb dX7_stepFrom_98 (by decide) ?_
      obtain rfl := Option.some.inj h
      exact hr _ _ _ _ dX7_stepFrom_100 hP hS
    · replace h := if_no hq h
      refine lv_aload_n hx hb dX7_stepFrom_21 rfl (lv_at hl 3 rfl) ?_
      refine gfWX_Pieces_count hc hP q_496 dX7_stepFrom_22 ?_
      refine lv_iload hx hb dX7_stepFrom_25 (lv_at hl 4 rfl) ?_
      obtain ⟨h3, h⟩ := chk_at h
      refine azWX_Pieces_count hc hP h3 dX7_stepFrom_27 ?_
      refine lv_iconst (v := Int32.ofInt (1 : Int)) hx hb dX7_stepFrom_28 (by decide) ?_
      refine z_isub hx hb dX7_stepFrom_29 ?_
      refine z_topi (fun x4 ex4 => ?_)
      replace h := olet_at ex4 h
      refine lv_istore (lv' := [(5, .int (Int32.ofInt x4)), (0, .ref (a 6)), (1, .int (Int32.ofInt v1)), (2, .ref (a 3)), (3, .ref (a 5)), (4, .int (Int32.ofInt v4))]) hx hb dX7_stepFrom_30 hl (by decide) rfl (fun ls hl => ?_)
      refine lv_aload_n hx hb dX7_stepFrom_32 rfl (lv_at hl 3 rfl) ?_
      refine gfWX_Edges_low hc hP q_519 dX7_stepFrom_33 ?_
      refine lv_iload hx hb dX7_stepFrom_36 (lv_at hl 5 rfl) ?_
      refine azWX_Edges_low hc hP h3 dX7_stepFrom_38 ?_
      refine lv_iload_n hx hb dX7_stepFrom_39 rfl (lv_at hl 2 rfl) ?_
      obtain ⟨h5, h⟩ := chk_at h
      obtain ⟨h6, h⟩ := chk_at h
      refine z_icmp_ne (tgt := 61) hx hb h5 h6 dX7_stepFrom_40 (by decide) (fun hq => ?_) (fun hq => ?_)
      · replace h := if_no hq h
        exact t_X7_stepFrom_p61 hc hr ih S v1 v4 x4 h H locs ls hP hS (lv_sub hl [1, 2, 3, 4, 5, 0] rfl)
      · replace h := if_yes hq h
        refine lv_aload_n hx hb dX7_stepFrom_43 rfl (lv_at hl 1 rfl) ?_
        refine lv_iload hx hb dX7_stepFrom_44 (lv_at hl 5 rfl) ?_
        refine lv_iconst (v := Int32.ofInt (0 : Int)) hx hb dX7_stepFrom_46 (by decide) ?_
        obtain ⟨S7, x9, hk8, h⟩ := ob2_at h
        refine cl_Vi (As := [.int (Int32.ofInt v4), .int (Int32.ofInt (0 : Int))]) (rest := []) hc k_X7_isLeft q_497 (c_X7_isLeft hk8) hP hS (WX_6 a g (em S)) rfl rfl rfl hl (Nat.le_of_ble_eq_true rfl) dX7_stepFrom_47 (Nat.le_of_ble_eq_true rfl) (Nat.le_of_ble_eq_true rfl) rfl (fun H locs hP hS => ?_)
        obtain ⟨h10, h⟩ := chk_at h
        refine z_if_eq (tgt := 61) hx hb h10 dX7_stepFrom_50 (by decide) (fun hq => ?_) (fun hq => ?_)
        · replace h := if_yes hq h
          exact t_X7_stepFrom_p61 hc hr ih S7 v1 v4 x4 h H locs ls hP hS (lv_sub hl [1, 2, 3, 4, 5, 0] rfl)
        · replace h := if_no hq h
          refine lv_iload hx hb dX7_stepFrom_53 (lv_at hl 5 rfl) ?_
          refine lv_iconst (v := Int32.ofInt (0 : Int)) hx hb dX7_stepFrom_55 (by decide) ?_
          refine lv_iconst (v := Int32.ofInt (1 : Int)) hx hb dX7_stepFrom_56 (by decide) ?_
          obtain ⟨S11, x13, hk12, h⟩ := ob2_at h
          refine cl_Si (As := [.int (Int32.ofInt v4), .int (Int32.ofInt (0 : Int)), .int (Int32.ofInt (1 : Int))]) (rest := []) hc k_X7_stepOf q_501 (c_X7_stepOf hk12) hP hS rfl hl (Nat.le_of_ble_eq_true rfl) dX7_stepFrom_57 (Nat.le_of_ble_eq_true rfl) (Nat.le_of_ble_eq_true rfl) rfl (fun H locs hP hS => ?_)
          obtain rfl := Option.some.inj h
          exact hr _ _ _ _ dX7_stepFrom_60 hP hS
set_option maxHeartbeats 4000000 in
set_option maxRecDepth 100000 in
theorem t_X7_stepFrom {z : SZ × Int} (hc : Cx p R s m args c D (tysWX g) A (WX a g) cX7_stepFrom 6 RX7 1 22) (hr : Rti p l e R s m args below meth c Q D A (WX a g) cX7_stepFrom (em z.1, Int32.ofInt z.2)) : ∀ (S : SZ) (v1 : Int), f_X7_stepFrom S v1 = some z → Go p l e R s m args below meth c Q D A (WX a g) 6 (em S) 0 [(0, .ref (a 6)), (1, .int (Int32.ofInt v1)), (2, .ref (a 3)), (3, .ref (a 5))] [] := by
  obtain ⟨⟨hx, hb, hml, hown, hts⟩, -, -, -, hnf, hno⟩ := id hc
  intro S v1 h H locs ls hP hS hl
  rw [f_X7_stepFrom] at h
  replace hl : lv_has ls 6 [(0, .ref (a 6)), (1, .int (Int32.ofInt v1)), (2, .ref (a 3)), (3, .ref (a 5))] := hl
  refine lv_iload_n hx hb dX7_stepFrom_0 rfl (lv_at hl 1 rfl) ?_
  refine lv_bipush (v := Int32.ofInt (-9 : Int)) hx hb dX7_stepFrom_1 (by decide) ?_
  obtain ⟨h1, h⟩ := chk_at h
  refine z_icmp_ne (tgt := 9) hx hb h1 (by decide) dX7_stepFrom_3 (by decide) (fun hq => ?_) (fun hq => ?_)
  · replace h := if_no hq h
    refine lv_iconst (v := Int32.ofInt (0 : Int)) hx hb dX7_stepFrom_9 (by decide) ?_
    refine lv_istore (lv' := [(4, .int (Int32.ofInt (0 : Int))), (0, .ref (a 6)), (1, .int (Int32.ofInt v1)), (2, .ref (a 3)), (3, .ref (a 5))]) hx hb dX7_stepFrom_10 hl (by decide) rfl (fun ls hl => ?_)
    exact t_X7_stepFrom_p12 hc hr FU S v1 (0 : Int) h H locs ls hP hS (lv_sub hl [1, 2, 3, 4, 0] rfl)
  · replace h := if_yes hq h
    refine lv_bipush (v := Int32.ofInt (-9 : Int)) hx hb dX7_stepFrom_6 (by decide) ?_
    obtain rfl := Option.some.inj h
    exact hr _ _ _ _ dX7_stepFrom_8 hP hS
abbrev rm_X7_stepFrom : Room := { frames := 1, cells := 0, slots := 0, locals := 22 }
theorem c_X7_stepFrom {l : Launch} {D : va_G} {a : Nat → Nat} {g : Nat → ClassId} {S : SZ} {v1 : Int} {Z1 : SZ} {r1 : Int} (h : f_X7_stepFrom S v1 = some (Z1, r1)) : MetI l D (tysWX g) (WX a g) E0 yX7_stepFrom cX7_stepFrom 6 (some .int) rm_X7_stepFrom [.ref (a 6), .int (Int32.ofInt v1), .ref (a 3), .ref (a 5)] (em S) (em Z1, Int32.ofInt r1) := mk_i (WX_same a g) (by decide) (em Z1, Int32.ofInt r1) (Nat.le_of_ble_eq_true rfl) (fun p e s m args below meth c A Q hc hE hr => t_X7_stepFrom (z := (Z1, r1)) hc hr S v1 h)
theorem k_X7_stepFrom : CalV RX7 yX7_stepFrom cX7_stepFrom 6 (some .int) rm_X7_stepFrom 3 := ⟨q_524, q_525, q_34, q_526, by decide +kernel, rfl, rfl⟩
set_option maxHeartbeats 4000000 in
set_option maxRecDepth 100000 in
theorem t_X7_draw_p3 {z : SZ} (hc : Cx p R s m args c D (tysWX g) A (WX a g) cX7_draw 5 RX7 2 47) (hr : Rtv p l e R s m args below meth c Q D A (WX a g) cX7_draw (em z)) : ∀ (fu : Nat) (S : SZ) (v4 : Int), f_X7_draw_p3 fu S v4 = some z → Go p l e R s m args below meth c Q D A (WX a g) 5 (em S) 3 [(0, .ref (a 6)), (2, .ref (a 3)), (3, .ref (a 5)), (4, .int (Int32.ofInt v4))] [] := by
  obtain ⟨⟨hx, hb, hml, hown, hts⟩, -, -, -, hnf, hno⟩ := id hc
  intro fu
  induction fu with
  | zero =>
    intro S v4 h
    rw [f_X7_draw_p3] at h
    cases h
  | succ fu ih =>
    intro S v4 h H locs ls hP hS hl
    rw [f_X7_draw_p3] at h
    refine lv_iload hx hb dX7_draw_3 (lv_at hl 3 rfl) ?_
    refine lv_bipush (v := Int32.ofInt (-9 : Int)) hx hb dX7_draw_5 (by decide) ?_
    obtain ⟨h1, h⟩ := chk_at h
    refine z_icmp_eq (tgt := 83) hx hb h1 (by decide) dX7_draw_7 (by decide) (fun hq => ?_) (fun hq => ?_)
    · replace h := if_yes hq h
      obtain rfl := Option.some.inj h
      exact hr _ _ _ _ dX7_draw_83 hP hS
    · replace h := if_no hq h
      refine lv_aload_n hx hb dX7_draw_10 rfl (lv_at hl 0 rfl) ?_
      refine gzWX_Strokes_steps hc hP q_493 dX7_draw_11 ?_
      refine lv_sipush (v := Int32.ofInt (2000 : Int)) hx hb dX7_draw_14 (by decide) ?_
      obtain ⟨h2, h⟩ := chk_at h
      refine z_icmp_ge (tgt := 83) hx hb h2 (by decide) dX7_draw_17 (by decide) (fun hq => ?_) (fun hq => ?_)
      · replace h := if_yes hq h
        obtain rfl := Option.some.inj h
        exact hr _ _ _ _ dX7_draw_83 hP hS
      · replace h := if_no hq h
        refine lv_aload_n hx hb dX7_draw_20 rfl (lv_at hl 0 rfl) ?_
        refine gfWX_Strokes_step hc hP q_90 dX7_draw_21 ?_
        refine lv_aload_n hx hb dX7_draw_24 rfl (lv_at hl 0 rfl) ?_
        refine gzWX_Strokes_steps hc hP q_493 dX7_draw_25 ?_
        refine lv_iload hx hb dX7_draw_28 (lv_at hl 3 rfl) ?_
        obtain ⟨h3, h⟩ := chk_at h
        refine szWX_Strokes_step hc hP hS h3 dX7_draw_30 (fun H locs hP hS => ?_)
        obtain ⟨S4, eS4⟩ : ∃ z, z = ua S 19 ((zi S 16)).toNat v4 := ⟨_, rfl⟩
        replace h := olet_at eS4 h
        rw [← eS4] at hP
        refine lv_aload_n hx hb dX7_draw_31 rfl (lv_at hl 0 rfl) ?_
        refine lv_dup hx hb dX7_draw_32 rfl ?_
        refine gzWX_Strokes_steps hc hP q_493 dX7_draw_33 ?_
        refine lv_iconst (v := Int32.ofInt (1 : Int)) hx hb dX7_draw_36 (by decide) ?_
        refine z_iadd hx hb dX7_draw_37 ?_
        refine pzWX_Strokes_steps hc hP hS q_493 dX7_draw_38 (fun H locs hP hS => ?_)
        obtain ⟨S5, eS5⟩ : ∃ z, z = ui S4 16 ((zi S4 16) + (1 : Int)) := ⟨_, rfl⟩
        replace h := olet_at eS5 h
        rw [← eS5] at hP
        refine lv_aload_n hx hb dX7_draw_41 rfl (lv_at hl 0 rfl) ?_
        refine gfWX_Strokes_left hc hP q_89 dX7_draw_42 ?_
        refine lv_iload hx hb dX7_draw_45 (lv_at hl 3 rfl) ?_
        obtain ⟨S6, x8, hk7, h⟩ := ob2_at h
        refine cl_Si (As := [.int (Int32.ofInt v4)]) (rest := [.ref (a 31)]) hc k_X7_edgeOf q_509 (c_X7_edgeOf hk7) hP hS rfl hl (Nat.le_of_ble_eq_true rfl) dX7_draw_47 (Nat.le_of_ble_eq_true rfl) (Nat.le_of_ble_eq_true rfl) rfl (fun H locs hP hS => ?_)
        refine lv_dup2_11 hx hb dX7_draw_50 rfl rfl ?_
        obtain ⟨h9, h⟩ := chk_at h
        refine azWX_Strokes_left hc hP h9 dX7_draw_51 ?_
        refine lv_lconst (v := Int64.ofInt (1 : Int)) hx hb dX7_draw_52 (by decide) ?_
        refine lv_iload hx hb dX7_draw_53 (lv_at hl 3 rfl) ?_
        obtain ⟨S10, x12, hk11, h⟩ := ob2_at h
        refine cl_Si (As := [.int (Int32.ofInt v4)]) (rest := [.long (Int64.ofInt (1 : Int)), .long (Int64.ofInt (zb S6 4 (x8).toNat)), .int (Int32.ofInt x8), .ref (a 31)]) hc k_X7_pieceOf q_512 (c_X7_pieceOf hk11) hP hS rfl hl (Nat.le_of_ble_eq_true rfl) dX7_draw_55 (Nat.le_of_ble_eq_true rfl) (Nat.le_of_ble_eq_true rfl) rfl (fun H locs hP hS => ?_)
        refine z_lshl hx hb dX7_draw_58 ?_
        refine lv_ldc2 (v := Int64.ofInt (-1 : Int)) hx hb hown (by have h9 := hts _ q_508; rwa [show (-1 : Int64) = Int64.ofInt (-1 : Int) by decide] at h9) dX7_draw_59 ?_
        refine z_lxor hx hb dX7_draw_62 ?_
        refine z_land hx hb dX7_draw_63 ?_
        refine szWX_Strokes_left hc hP hS h9 dX7_draw_64 (fun H locs hP hS => ?_)
        obtain ⟨S13, eS13⟩ : ∃ z, z = ub S10 4 (x8).toNat (zland (zb S6 4 (x8).toNat) (zlxor (zlshl (1 : Int) x12) (-1 : Int))) := ⟨_, rfl⟩
        replace h := olet_at eS13 h
        rw [← eS13] at hP
        refine lv_aload_n hx hb dX7_draw_65 rfl (lv_at hl 0 rfl) ?_
        refine lv_iload hx hb dX7_draw_66 (lv_at hl 3 rfl) ?_
        refine lv_aload_n hx hb dX7_draw_68 rfl (lv_at hl 1 rfl) ?_
        refine lv_aload_n hx hb dX7_draw_69 rfl (lv_at hl 2 rfl) ?_
        obtain ⟨S14, x16, hk15, h⟩ := ob2_at h
        refine cl_Si (As := [.int (Int32.ofInt v4), .ref (a 3), .ref (a 5)]) (rest := [.ref (a 6)]) hc k_X7_pointBehind q_515 (c_X7_pointBehind hk15) hP hS rfl hl (Nat.le_of_ble_eq_true rfl) dX7_draw_70 (Nat.le_of_ble_eq_true rfl) (Nat.le_of_ble_eq_true rfl) rfl (fun H locs hP hS => ?_)
        refine lv_aload_n hx hb dX7_draw_73 rfl (lv_at hl 1 rfl) ?_
        refine lv_aload_n hx hb dX7_draw_74 rfl (lv_at hl 2 rfl) ?_
        obtain ⟨S17, x19, hk18, h⟩ := ob2_at h
        refine cl_Vi (As := [.int (Int32.ofInt x16), .ref (a 3), .ref (a 5)]) (rest := []) hc k_X7_stepFrom q_523 (c_X7_stepFrom hk18) hP hS (WX_6 a g (em S14)) rfl rfl rfl hl (Nat.le_of_ble_eq_true rfl) dX7_draw_75 (Nat.le_of_ble_eq_true rfl) (Nat.le_of_ble_eq_true rfl) rfl (fun H locs hP hS => ?_)
        refine lv_istore (lv' := [(4, .int (Int32.ofInt x19)), (0, .ref (a 6)), (2, .ref (a 3)), (3, .ref (a 5))]) hx hb dX7_draw_78 hl (by decide) rfl (fun ls hl => ?_)
        refine lv_goto (tgt := 3) hx hb dX7_draw_80 (by decide) ?_
        exact ih S17 x19 h H locs ls hP hS (lv_sub hl [1, 2, 3, 0] rfl)
set_option maxHeartbeats 4000000 in
set_option maxRecDepth 100000 in
theorem t_X7_draw {z : SZ} (hc : Cx p R s m args c D (tysWX g) A (WX a g) cX7_draw 5 RX7 2 47) (hr : Rtv p l e R s m args below meth c Q D A (WX a g) cX7_draw (em z)) : ∀ (S : SZ) (v1 : Int), f_X7_draw S v1 = some z → Go p l e R s m args below meth c Q D A (WX a g) 5 (em S) 0 [(0, .ref (a 6)), (1, .int (Int32.ofInt v1)), (2, .ref (a 3)), (3, .ref (a 5))] [] := by
  obtain ⟨⟨hx, hb, hml, hown, hts⟩, -, -, -, hnf, hno⟩ := id hc
  intro S v1 h H locs ls hP hS hl
  rw [f_X7_draw] at h
  replace hl : lv_has ls 5 [(0, .ref (a 6)), (1, .int (Int32.ofInt v1)), (2, .ref (a 3)), (3, .ref (a 5))] := hl
  refine lv_iload_n hx hb dX7_draw_0 rfl (lv_at hl 1 rfl) ?_
  refine lv_istore (lv' := [(4, .int (Int32.ofInt v1)), (0, .ref (a 6)), (1, .int (Int32.ofInt v1)), (2, .ref (a 3)), (3, .ref (a 5))]) hx hb dX7_draw_1 hl (by decide) rfl (fun ls hl => ?_)
  exact t_X7_draw_p3 hc hr FU S v1 h H locs ls hP hS (lv_sub hl [1, 3, 4, 0] rfl)
abbrev rm_X7_draw : Room := { frames := 2, cells := 0, slots := 0, locals := 47 }
theorem c_X7_draw {l : Launch} {D : va_G} {a : Nat → Nat} {g : Nat → ClassId} {S : SZ} {v1 : Int} {z : SZ} (h : f_X7_draw S v1 = some z) : MetV l D (tysWX g) (WX a g) E0 yX7_draw cX7_draw 5 none rm_X7_draw [.ref (a 6), .int (Int32.ofInt v1), .ref (a 3), .ref (a 5)] (em S) (em z) := mk_v (WX_same a g) (by decide) (em z) (Nat.le_of_ble_eq_true rfl) (fun p e s m args below meth c A Q hc hE hr => t_X7_draw (z := z) hc hr S v1 h)
theorem k_X7_draw : CalV RX7 yX7_draw cX7_draw 5 none rm_X7_draw 3 := ⟨q_505, q_506, q_34, q_507, by decide +kernel, rfl, rfl⟩
set_option maxHeartbeats 4000000 in
set_option maxRecDepth 100000 in
theorem t_X7_rebuild_p51 {z : SZ} (hc : Cx p R s m args c D (tysWX g) A (WX a g) cX7_rebuild 5 RX7 3 71) (hr : Rtv p l e R s m args below meth c Q D A (WX a g) cX7_rebuild (em z)) {k40 : SZ → Int → Option (SZ)} (K40 : ∀ (S : SZ) (v3 : Int), k40 S v3 = some z → Go p l e R s m args below meth c Q D A (WX a g) 5 (em S) 40 [(0, .ref (a 6)), (1, .ref (a 3)), (2, .ref (a 5)), (3, .int (Int32.ofInt v3))] []) : ∀ (fu : Nat) (S : SZ) (v3 : Int) (v4 : Int), f_X7_rebuild_p51 k40 fu S v3 v4 = some z → Go p l e R s m args below meth c Q D A (WX a g) 5 (em S) 51 [(0, .ref (a 6)), (1, .ref (a 3)), (2, .ref (a 5)), (3, .int (Int32.ofInt v3)), (4, .int (Int32.ofInt v4))] [] := by
  obtain ⟨⟨hx, hb, hml, hown, hts⟩, -, -, -, hnf, hno⟩ := id hc
  intro fu
  induction fu with
  | zero =>
    intro S v3 v4 h
    rw [f_X7_rebuild_p51] at h
    cases h
  | succ fu ih =>
    intro S v3 v4 h H locs ls hP hS hl
    rw [f_X7_rebuild_p51] at h
    refine lv_iload hx hb dX7_rebuild_51 (lv_at hl 4 rfl) ?_
    refine lv_aload_n hx hb dX7_rebuild_53 rfl (lv_at hl 2 rfl) ?_
    refine gfWX_Pieces_count hc hP q_496 dX7_rebuild_54 ?_
    refine lv_iload_n hx hb dX7_rebuild_57 rfl (lv_at hl 3 rfl) ?_
    obtain ⟨h1, h⟩ := chk_at h
    refine azWX_Pieces_count hc hP h1 dX7_rebuild_58 ?_
    obtain ⟨h2, h⟩ := chk_at h
    obtain ⟨h3, h⟩ := chk_at h
    refine z_icmp_ge (tgt := 124) hx hb h2 h3 dX7_rebuild_59 (by decide) (fun hq => ?_) (fun hq => ?_)
    · replace h := if_yes hq h
      obtain ⟨x4, ex4⟩ : ∃ y : Int, y = v3 + (1 : Int) := ⟨_, rfl⟩
      replace h := olet_at ex4 h
      refine lv_iinc (v := Int32.ofInt x4) (lv' := [(3, .int (Int32.ofInt x4)), (0, .ref (a 6)), (1, .ref (a 3)), (2, .ref (a 5)), (4, .int (Int32.ofInt v4))]) hx hb dX7_rebuild_124 hl (k := 3) rfl (by rw [ex4, Int32.ofInt_add]) (by decide) rfl (fun ls hl => ?_)
      refine lv_goto (tgt := 40) hx hb dX7_rebuild_127 (by decide) ?_
      exact K40 S x4 h H locs ls hP hS (lv_sub hl [1, 2, 3, 0] rfl)
    · replace h := if_no hq h
      refine lv_aload_n hx hb dX7_rebuild_62 rfl (lv_at hl 0 rfl) ?_
      refine lv_iload_n hx hb dX7_rebuild_63 rfl (lv_at hl 3 rfl) ?_
      refine lv_iload hx hb dX7_rebuild_64 (lv_at hl 4 rfl) ?_
      obtain ⟨S5, x7, hk6, h⟩ := ob2_at h
      refine cl_Vi (As := [.int (Int32.ofInt v3), .int (Int32.ofInt v4)]) (rest := []) hc k_X7_isLeft q_497 (c_X7_isLeft hk6) hP hS (WX_6 a g (em S)) rfl rfl rfl hl (Nat.le_of_ble_eq_true rfl) dX7_rebuild_66 (Nat.le_of_ble_eq_true rfl) (Nat.le_of_ble_eq_true rfl) rfl (fun H locs hP hS => ?_)
      obtain ⟨h8, h⟩ := chk_at h
      refine z_if_eq (tgt := 118) hx hb h8 dX7_rebuild_69 (by decide) (fun hq => ?_) (fun hq => ?_)
      · replace h := if_yes hq h
        obtain ⟨x9, ex9⟩ : ∃ y : Int, y = v4 + (1 : Int) := ⟨_, rfl⟩
        replace h := olet_at ex9 h
        refine lv_iinc (v := Int32.ofInt x9) (lv' := [(4, .int (Int32.ofInt x9)), (0, .ref (a 6)), (1, .ref (a 3)), (2, .ref (a 5)), (3, .int (Int32.ofInt v3))]) hx hb dX7_rebuild_118 hl (k := 4) rfl (by rw [ex9, Int32.ofInt_add]) (by decide) rfl (fun ls hl => ?_)
        refine lv_goto (tgt := 51) hx hb dX7_rebuild_121 (by decide) ?_
        exact ih S5 v3 x9 h H locs ls hP hS (lv_sub hl [1, 2, 3, 4, 0] rfl)
      · replace h := if_no hq h
        refine lv_aload_n hx hb dX7_rebuild_72 rfl (lv_at hl 0 rfl) ?_
        refine gzWX_Strokes_count hc hP q_492 dX7_rebuild_73 ?_
        refine lv_sipush (v := Int32.ofInt (2000 : Int)) hx hb dX7_rebuild_76 (by decide) ?_
        obtain ⟨h10, h⟩ := chk_at h
        refine z_icmp_ge (tgt := 118) hx hb h10 (by decide) dX7_rebuild_79 (by decide) (fun hq => ?_) (fun hq => ?_)
        · replace h := if_yes hq h
          obtain ⟨x11, ex11⟩ : ∃ y : Int, y = v4 + (1 : Int) := ⟨_, rfl⟩
          replace h := olet_at ex11 h
          refine lv_iinc (v := Int32.ofInt x11) (lv' := [(4, .int (Int32.ofInt x11)), (0, .ref (a 6)), (1, .ref (a 3)), (2, .ref (a 5)), (3, .int (Int32.ofInt v3))]) hx hb dX7_rebuild_118 hl (k := 4) rfl (by rw [ex11, Int32.ofInt_add]) (by decide) rfl (fun ls hl => ?_)
          refine lv_goto (tgt := 51) hx hb dX7_rebuild_121 (by decide) ?_
          exact ih S5 v3 x11 h H locs ls hP hS (lv_sub hl [1, 2, 3, 4, 0] rfl)
        · replace h := if_no hq h
          refine lv_aload_n hx hb dX7_rebuild_82 rfl (lv_at hl 0 rfl) ?_
          refine gfWX_Strokes_first hc hP q_91 dX7_rebuild_83 ?_
          refine lv_aload_n hx hb dX7_rebuild_86 rfl (lv_at hl 0 rfl) ?_
          refine gzWX_Strokes_count hc hP q_492 dX7_rebuild_87 ?_
          refine lv_aload_n hx hb dX7_rebuild_90 rfl (lv_at hl 0 rfl) ?_
          refine gzWX_Strokes_steps hc hP q_493 dX7_rebuild_91 ?_
          obtain ⟨h12, h⟩ := chk_at h
          refine szWX_Strokes_first hc hP hS h12 dX7_rebuild_94 (fun H locs hP hS => ?_)
          obtain ⟨S13, eS13⟩ : ∃ z, z = ua S5 20 ((zi S5 17)).toNat (zi S5 16) := ⟨_, rfl⟩
          replace h := olet_at eS13 h
          rw [← eS13] at hP
          refine lv_aload_n hx hb dX7_rebuild_95 rfl (lv_at hl 0 rfl) ?_
          refine lv_dup hx hb dX7_rebuild_96 rfl ?_
          refine gzWX_Strokes_count hc hP q_492 dX7_rebuild_97 ?_
          refine lv_iconst (v := Int32.ofInt (1 : Int)) hx hb dX7_rebuild_100 (by decide) ?_
          refine z_iadd hx hb dX7_rebuild_101 ?_
          refine pzWX_Strokes_count hc hP hS q_492 dX7_rebuild_102 (fun H locs hP hS => ?_)
          obtain ⟨S14, eS14⟩ : ∃ z, z = ui S13 17 ((zi S13 17) + (1 : Int)) := ⟨_, rfl⟩
          replace h := olet_at eS14 h
          rw [← eS14] at hP
          refine lv_aload_n hx hb dX7_rebuild_105 rfl (lv_at hl 0 rfl) ?_
          refine lv_iload_n hx hb dX7_rebuild_106 rfl (lv_at hl 3 rfl) ?_
          refine lv_iload hx hb dX7_rebuild_107 (lv_at hl 4 rfl) ?_
          refine lv_iconst (v := Int32.ofInt (1 : Int)) hx hb dX7_rebuild_109 (by decide) ?_
          obtain ⟨S15, x17, hk16, h⟩ := ob2_at h
          refine cl_Si (As := [.int (Int32.ofInt v3), .int (Int32.ofInt v4), .int (Int32.ofInt (1 : Int))]) (rest := [.ref (a 6)]) hc k_X7_stepOf q_501 (c_X7_stepOf hk16) hP hS rfl hl (Nat.le_of_ble_eq_true rfl) dX7_rebuild_110 (Nat.le_of_ble_eq_true rfl) (Nat.le_of_ble_eq_true rfl) rfl (fun H locs hP hS => ?_)
          refine lv_aload_n hx hb dX7_rebuild_113 rfl (lv_at hl 1 rfl) ?_
          refine lv_aload_n hx hb dX7_rebuild_114 rfl (lv_at hl 2 rfl) ?_
          obtain ⟨S18, hk19, h⟩ := ob1_at h
          refine cl_Vv (As := [.int (Int32.ofInt x17), .ref (a 3), .ref (a 5)]) (rest := []) hc k_X7_draw q_504 (c_X7_draw hk19) hP hS (WX_6 a g (em S15)) rfl rfl rfl hl (Nat.le_of_ble_eq_true rfl) dX7_rebuild_115 (Nat.le_of_ble_eq_true rfl) (Nat.le_of_ble_eq_true rfl) rfl (fun H locs hP hS => ?_)
          obtain ⟨x20, ex20⟩ : ∃ y : Int, y = v4 + (1 : Int) := ⟨_, rfl⟩
          replace h := olet_at ex20 h
          refine lv_iinc (v := Int32.ofInt x20) (lv' := [(4, .int (Int32.ofInt x20)), (0, .ref (a 6)), (1, .ref (a 3)), (2, .ref (a 5)), (3, .int (Int32.ofInt v3))]) hx hb dX7_rebuild_118 hl (k := 4) rfl (by rw [ex20, Int32.ofInt_add]) (by decide) rfl (fun ls hl => ?_)
          refine lv_goto (tgt := 51) hx hb dX7_rebuild_121 (by decide) ?_
          exact ih S18 v3 x20 h H locs ls hP hS (lv_sub hl [1, 2, 3, 4, 0] rfl)
set_option maxHeartbeats 4000000 in
set_option maxRecDepth 100000 in
theorem t_X7_rebuild_p40 {z : SZ} (hc : Cx p R s m args c D (tysWX g) A (WX a g) cX7_rebuild 5 RX7 3 71) (hr : Rtv p l e R s m args below meth c Q D A (WX a g) cX7_rebuild (em z)) : ∀ (fu : Nat) (S : SZ) (v3 : Int), f_X7_rebuild_p40 fu S v3 = some z → Go p l e R s m args below meth c Q D A (WX a g) 5 (em S) 40 [(0, .ref (a 6)), (1, .ref (a 3)), (2, .ref (a 5)), (3, .int (Int32.ofInt v3))] [] := by
  obtain ⟨⟨hx, hb, hml, hown, hts⟩, -, -, -, hnf, hno⟩ := id hc
  intro fu
  induction fu with
  | zero =>
    intro S v3 h
    rw [f_X7_rebuild_p40] at h
    cases h
  | succ fu ih =>
    intro S v3 h H locs ls hP hS hl
    rw [f_X7_rebuild_p40] at h
    refine lv_iload_n hx hb dX7_rebuild_40 rfl (lv_at hl 3 rfl) ?_
    refine lv_aload_n hx hb dX7_rebuild_41 rfl (lv_at hl 1 rfl) ?_
    refine gzWX_Edges_count hc hP q_494 dX7_rebuild_42 ?_
    obtain ⟨h1, h⟩ := chk_at h
    obtain ⟨h2, h⟩ := chk_at h
    refine z_icmp_ge (tgt := 130) hx hb h1 h2 dX7_rebuild_45 (by decide) (fun hq => ?_) (fun hq => ?_)
    · replace h := if_yes hq h
      obtain rfl := Option.some.inj h
      exact hr _ _ _ _ dX7_rebuild_130 hP hS
    · replace h := if_no hq h
      refine lv_iconst (v := Int32.ofInt (0 : Int)) hx hb dX7_rebuild_48 (by decide) ?_
      refine lv_istore (lv' := [(4, .int (Int32.ofInt (0 : Int))), (0, .ref (a 6)), (1, .ref (a 3)), (2, .ref (a 5)), (3, .int (Int32.ofInt v3))]) hx hb dX7_rebuild_49 hl (by decide) rfl (fun ls hl => ?_)
      exact t_X7_rebuild_p51 hc hr ih FU S v3 (0 : Int) h H locs ls hP hS (lv_sub hl [1, 2, 3, 4, 0] rfl)
set_option maxHeartbeats 4000000 in
set_option maxRecDepth 100000 in
theorem t_X7_rebuild_p12 {z : SZ} (hc : Cx p R s m args c D (tysWX g) A (WX a g) cX7_rebuild 5 RX7 3 71) (hr : Rtv p l e R s m args below meth c Q D A (WX a g) cX7_rebuild (em z)) : ∀ (fu : Nat) (S : SZ) (v3 : Int), f_X7_rebuild_p12 fu S v3 = some z → Go p l e R s m args below meth c Q D A (WX a g) 5 (em S) 12 [(0, .ref (a 6)), (1, .ref (a 3)), (2, .ref (a 5)), (3, .int (Int32.ofInt v3))] [] := by
  obtain ⟨⟨hx, hb, hml, hown, hts⟩, -, -, -, hnf, hno⟩ := id hc
  intro fu
  induction fu with
  | zero =>
    intro S v3 h
    rw [f_X7_rebuild_p12] at h
    cases h
  | succ fu ih =>
    intro S v3 h H locs ls hP hS hl
    rw [f_X7_rebuild_p12] at h
    refine lv_iload_n hx hb dX7_rebuild_12 rfl (lv_at hl 3 rfl) ?_
    refine lv_aload_n hx hb dX7_rebuild_13 rfl (lv_at hl 1 rfl) ?_
    refine gzWX_Edges_count hc hP q_494 dX7_rebuild_14 ?_
    obtain ⟨h1, h⟩ := chk_at h
    obtain ⟨h2, h⟩ := chk_at h
    refine z_icmp_ge (tgt := 38) hx hb h1 h2 dX7_rebuild_17 (by decide) (fun hq => ?_) (fun hq => ?_)
    · replace h := if_yes hq h
      refine lv_iconst (v := Int32.ofInt (0 : Int)) hx hb dX7_rebuild_38 (by decide) ?_
      refine lv_istore_n (lv' := [(3, .int (Int32.ofInt (0 : Int))), (0, .ref (a 6)), (1, .ref (a 3)), (2, .ref (a 5))]) hx hb dX7_rebuild_39 rfl hl (by decide) rfl (fun ls hl => ?_)
      exact t_X7_rebuild_p40 hc hr FU S (0 : Int) h H locs ls hP hS (lv_sub hl [1, 2, 3, 0] rfl)
    · replace h := if_no hq h
      refine lv_aload_n hx hb dX7_rebuild_20 rfl (lv_at hl 0 rfl) ?_
      refine gfWX_Strokes_left hc hP q_89 dX7_rebuild_21 ?_
      refine lv_iload_n hx hb dX7_rebuild_24 rfl (lv_at hl 3 rfl) ?_
      refine lv_aload_n hx hb dX7_rebuild_25 rfl (lv_at hl 2 rfl) ?_
      refine gfWX_Pieces_visible hc hP q_495 dX7_rebuild_26 ?_
      refine lv_iload_n hx hb dX7_rebuild_29 rfl (lv_at hl 3 rfl) ?_
      obtain ⟨h3, h⟩ := chk_at h
      refine azWX_Pieces_visible hc hP h3 dX7_rebuild_30 ?_
      refine szWX_Strokes_left hc hP hS h3 dX7_rebuild_31 (fun H locs hP hS => ?_)
      obtain ⟨S4, eS4⟩ : ∃ z, z = ub S 4 (v3).toNat (zb S 3 (v3).toNat) := ⟨_, rfl⟩
      replace h := olet_at eS4 h
      rw [← eS4] at hP
      obtain ⟨x5, ex5⟩ : ∃ y : Int, y = v3 + (1 : Int) := ⟨_, rfl⟩
      replace h := olet_at ex5 h
      refine lv_iinc (v := Int32.ofInt x5) (lv' := [(3, .int (Int32.ofInt x5)), (0, .ref (a 6)), (1, .ref (a 3)), (2, .ref (a 5))]) hx hb dX7_rebuild_32 hl (k := 3) rfl (by rw [ex5, Int32.ofInt_add]) (by decide) rfl (fun ls hl => ?_)
      refine lv_goto (tgt := 12) hx hb dX7_rebuild_35 (by decide) ?_
      exact ih S4 x5 h H locs ls hP hS (lv_sub hl [1, 2, 3, 0] rfl)
set_option maxHeartbeats 4000000 in
set_option maxRecDepth 100000 in
theorem t_X7_rebuild {z : SZ} (hc : Cx p R s m args c D (tysWX g) A (WX a g) cX7_rebuild 5 RX7 3 71) (hr : Rtv p l e R s m args below meth c Q D A (WX a g) cX7_rebuild (em z)) : ∀ (S : SZ), f_X7_rebuild S = some z → Go p l e R s m args below meth c Q D A (WX a g) 5 (em S) 0 [(0, .ref (a 6)), (1, .ref (a 3)), (2, .ref (a 5))] [] := by
  obtain ⟨⟨hx, hb, hml, hown, hts⟩, -, -, -, hnf, hno⟩ := id hc
  intro S h H locs ls hP hS hl
  rw [f_X7_rebuild] at h
  replace hl : lv_has ls 5 [(0, .ref (a 6)), (1, .ref (a 3)), (2, .ref (a 5))] := hl
  refine lv_aload_n hx hb dX7_rebuild_0 rfl (lv_at hl 0 rfl) ?_
  refine lv_iconst (v := Int32.ofInt (0 : Int)) hx hb dX7_rebuild_1 (by decide) ?_
  refine pzWX_Strokes_count hc hP hS q_492 dX7_rebuild_2 (fun H locs hP hS => ?_)
  obtain ⟨S1, eS1⟩ : ∃ z, z = ui S 17 (0 : Int) := ⟨_, rfl⟩
  replace h := olet_at eS1 h
  rw [← eS1] at hP
  refine lv_aload_n hx hb dX7_rebuild_5 rfl (lv_at hl 0 rfl) ?_
  refine lv_iconst (v := Int32.ofInt (0 : Int)) hx hb dX7_rebuild_6 (by decide) ?_
  refine pzWX_Strokes_steps hc hP hS q_493 dX7_rebuild_7 (fun H locs hP hS => ?_)
  obtain ⟨S2, eS2⟩ : ∃ z, z = ui S1 16 (0 : Int) := ⟨_, rfl⟩
  replace h := olet_at eS2 h
  rw [← eS2] at hP
  refine lv_iconst (v := Int32.ofInt (0 : Int)) hx hb dX7_rebuild_10 (by decide) ?_
  refine lv_istore_n (lv' := [(3, .int (Int32.ofInt (0 : Int))), (0, .ref (a 6)), (1, .ref (a 3)), (2, .ref (a 5))]) hx hb dX7_rebuild_11 rfl hl (by decide) rfl (fun ls hl => ?_)
  exact t_X7_rebuild_p12 hc hr FU S2 (0 : Int) h H locs ls hP hS (lv_sub hl [1, 2, 3, 0] rfl)
abbrev rm_X7_rebuild : Room := { frames := 3, cells := 0, slots := 0, locals := 71 }
theorem c_X7_rebuild {l : Launch} {D : va_G} {a : Nat → Nat} {g : Nat → ClassId} {S : SZ} {z : SZ} (h : f_X7_rebuild S = some z) : MetV l D (tysWX g) (WX a g) E0 yX7_rebuild cX7_rebuild 5 none rm_X7_rebuild [.ref (a 6), .ref (a 3), .ref (a 5)] (em S) (em z) := mk_v (WX_same a g) (by decide) (em z) (Nat.le_of_ble_eq_true rfl) (fun p e s m args below meth c A Q hc hE hr => t_X7_rebuild (z := z) hc hr S h)
theorem k_X7_rebuild : CalV RX7 yX7_rebuild cX7_rebuild 5 none rm_X7_rebuild 2 := ⟨q_489, q_490, q_34, q_491, by decide +kernel, rfl, rfl⟩
set_option maxHeartbeats 4000000 in
set_option maxRecDepth 100000 in
theorem t_X7_has {z : SZ × Int} (hc : Cx p R s m args c D (tysWX g) A (WX a g) cX7_has 2 RX7 0 0) (hr : Rtz p l e R s m args below meth c Q D A (WX a g) cX7_has (em z.1, Int32.ofInt z.2)) : ∀ (S : SZ) (v1 : Int), f_X7_has S v1 = some z → Go p l e R s m args below meth c Q D A (WX a g) 2 (em S) 0 [(0, .ref (a 6)), (1, .int (Int32.ofInt v1))] [] := by
  obtain ⟨⟨hx, hb, hml, hown, hts⟩, -, -, -, hnf, hno⟩ := id hc
  intro S v1 h H locs ls hP hS hl
  rw [f_X7_has] at h
  replace hl : lv_has ls 2 [(0, .ref (a 6)), (1, .int (Int32.ofInt v1))] := hl
  refine lv_iload_n hx hb dX7_has_0 rfl (lv_at hl 1 rfl) ?_
  obtain ⟨h1, h⟩ := chk_at h
  refine z_if_lt (tgt := 16) hx hb h1 dX7_has_1 (by decide) (fun hq => ?_) (fun hq => ?_)
  · replace h := if_yes hq h
    refine lv_iconst (v := Int32.ofInt (0 : Int)) hx hb dX7_has_16 (by decide) ?_
    obtain rfl := Option.some.inj h
    exact hr (bit_of (Or.inl rfl)) _ _ _ _ dX7_has_17 hP hS
  · replace h := if_no hq h
    refine lv_iload_n hx hb dX7_has_4 rfl (lv_at hl 1 rfl) ?_
    refine lv_aload_n hx hb dX7_has_5 rfl (lv_at hl 0 rfl) ?_
    refine gzWX_Strokes_count hc hP q_492 dX7_has_6 ?_
    obtain ⟨h2, h⟩ := chk_at h
    refine z_icmp_ge (tgt := 16) hx hb h1 h2 dX7_has_9 (by decide) (fun hq => ?_) (fun hq => ?_)
    · replace h := if_yes hq h
      refine lv_iconst (v := Int32.ofInt (0 : Int)) hx hb dX7_has_16 (by decide) ?_
      obtain rfl := Option.some.inj h
      exact hr (bit_of (Or.inl rfl)) _ _ _ _ dX7_has_17 hP hS
    · replace h := if_no hq h
      refine lv_iconst (v := Int32.ofInt (1 : Int)) hx hb dX7_has_12 (by decide) ?_
      refine lv_goto (tgt := 17) hx hb dX7_has_13 (by decide) ?_
      obtain rfl := Option.some.inj h
      exact hr (bit_of (Or.inr rfl)) _ _ _ _ dX7_has_17 hP hS
abbrev rm_X7_has : Room := { frames := 0, cells := 0, slots := 0, locals := 0 }
theorem c_X7_has {l : Launch} {D : va_G} {a : Nat → Nat} {g : Nat → ClassId} {S : SZ} {v1 : Int} {Z1 : SZ} {r1 : Int} (h : f_X7_has S v1 = some (Z1, r1)) : MetI l D (tysWX g) (WX a g) E0 yX7_has cX7_has 2 (some .boolean) rm_X7_has [.ref (a 6), .int (Int32.ofInt v1)] (em S) (em Z1, Int32.ofInt r1) := mk_z (WX_same a g) (by decide) (em Z1, Int32.ofInt r1) (Nat.le_of_ble_eq_true rfl) (fun p e s m args below meth c A Q hc hE hr => t_X7_has (z := (Z1, r1)) hc hr S v1 h)
theorem k_X7_has : CalV RX7 yX7_has cX7_has 2 (some .boolean) rm_X7_has 1 := ⟨q_771, q_772, q_34, q_773, by decide +kernel, rfl, rfl⟩
set_option maxHeartbeats 4000000 in
set_option maxRecDepth 100000 in
theorem t_X7_length {z : SZ × Int} (hc : Cx p R s m args c D (tysWX g) A (WX a g) cX7_length 2 RX7 0 0) (hr : Rti p l e R s m args below meth c Q D A (WX a g) cX7_length (em z.1, Int32.ofInt z.2)) : ∀ (S : SZ) (v1 : Int), f_X7_length S v1 = some z → Go p l e R s m args below meth c Q D A (WX a g) 2 (em S) 0 [(0, .ref (a 6)), (1, .int (Int32.ofInt v1))] [] := by
  obtain ⟨⟨hx, hb, hml, hown, hts⟩, -, -, -, hnf, hno⟩ := id hc
  intro S v1 h H locs ls hP hS hl
  rw [f_X7_length] at h
  replace hl : lv_has ls 2 [(0, .ref (a 6)), (1, .int (Int32.ofInt v1))] := hl
  refine lv_iload_n hx hb dX7_length_0 rfl (lv_at hl 1 rfl) ?_
  refine lv_iconst (v := Int32.ofInt (1 : Int)) hx hb dX7_length_1 (by decide) ?_
  refine z_iadd hx hb dX7_length_2 ?_
  refine lv_aload_n hx hb dX7_length_3 rfl (lv_at hl 0 rfl) ?_
  refine gzWX_Strokes_count hc hP q_492 dX7_length_4 ?_
  obtain ⟨h1, h⟩ := chk_at h
  obtain ⟨h2, h⟩ := chk_at h
  refine z_icmp_ge (tgt := 21) hx hb h1 h2 dX7_length_7 (by decide) (fun hq => ?_) (fun hq => ?_)
  · replace h := if_yes hq h
    refine lv_aload_n hx hb dX7_length_21 rfl (lv_at hl 0 rfl) ?_
    refine gzWX_Strokes_steps hc hP q_493 dX7_length_22 ?_
    refine lv_aload_n hx hb dX7_length_25 rfl (lv_at hl 0 rfl) ?_
    refine gfWX_Strokes_first hc hP q_91 dX7_length_26 ?_
    refine lv_iload_n hx hb dX7_length_29 rfl (lv_at hl 1 rfl) ?_
    obtain ⟨h3, h⟩ := chk_at h
    refine azWX_Strokes_first hc hP h3 dX7_length_30 ?_
    refine z_isub hx hb dX7_length_31 ?_
    obtain rfl := Option.some.inj h
    exact hr _ _ _ _ dX7_length_32 hP hS
  · replace h := if_no hq h
    refine lv_aload_n hx hb dX7_length_10 rfl (lv_at hl 0 rfl) ?_
    refine gfWX_Strokes_first hc hP q_91 dX7_length_11 ?_
    refine lv_iload_n hx hb dX7_length_14 rfl (lv_at hl 1 rfl) ?_
    refine lv_iconst (v := Int32.ofInt (1 : Int)) hx hb dX7_length_15 (by decide) ?_
    refine z_iadd hx hb dX7_length_16 ?_
    obtain ⟨h4, h⟩ := chk_at h
    refine azWX_Strokes_first hc hP h4 dX7_length_17 ?_
    refine lv_goto (tgt := 25) hx hb dX7_length_18 (by decide) ?_
    refine lv_aload_n hx hb dX7_length_25 rfl (lv_at hl 0 rfl) ?_
    refine gfWX_Strokes_first hc hP q_91 dX7_length_26 ?_
    refine lv_iload_n hx hb dX7_length_29 rfl (lv_at hl 1 rfl) ?_
    obtain ⟨h5, h⟩ := chk_at h
    refine azWX_Strokes_first hc hP h5 dX7_length_30 ?_
    refine z_isub hx hb dX7_length_31 ?_
    obtain rfl := Option.some.inj h
    exact hr _ _ _ _ dX7_length_32 hP hS
abbrev rm_X7_length : Room := { frames := 0, cells := 0, slots := 0, locals := 0 }
theorem c_X7_length {l : Launch} {D : va_G} {a : Nat → Nat} {g : Nat → ClassId} {S : SZ} {v1 : Int} {Z1 : SZ} {r1 : Int} (h : f_X7_length S v1 = some (Z1, r1)) : MetI l D (tysWX g) (WX a g) E0 yX7_length cX7_length 2 (some .int) rm_X7_length [.ref (a 6), .int (Int32.ofInt v1)] (em S) (em Z1, Int32.ofInt r1) := mk_i (WX_same a g) (by decide) (em Z1, Int32.ofInt r1) (Nat.le_of_ble_eq_true rfl) (fun p e s m args below meth c A Q hc hE hr => t_X7_length (z := (Z1, r1)) hc hr S v1 h)
theorem k_X7_length : CalV RX7 yX7_length cX7_length 2 (some .int) rm_X7_length 1 := ⟨q_775, q_776, q_34, q_777, by decide +kernel, rfl, rfl⟩
set_option maxHeartbeats 4000000 in
set_option maxRecDepth 100000 in
theorem t_X7_startPoint {z : SZ × Int} (hc : Cx p R s m args c D (tysWX g) A (WX a g) cX7_startPoint 4 RX7 1 20) (hr : Rti p l e R s m args below meth c Q D A (WX a g) cX7_startPoint (em z.1, Int32.ofInt z.2)) : ∀ (S : SZ) (v1 : Int), f_X7_startPoint S v1 = some z → Go p l e R s m args below meth c Q D A (WX a g) 4 (em S) 0 [(0, .ref (a 6)), (1, .int (Int32.ofInt v1)), (2, .ref (a 3))] [] := by
  obtain ⟨⟨hx, hb, hml, hown, hts⟩, -, -, -, hnf, hno⟩ := id hc
  intro S v1 h H locs ls hP hS hl
  rw [f_X7_startPoint] at h
  replace hl : lv_has ls 4 [(0, .ref (a 6)), (1, .int (Int32.ofInt v1)), (2, .ref (a 3))] := hl
  refine lv_aload_n hx hb dX7_startPoint_0 rfl (lv_at hl 0 rfl) ?_
  refine gfWX_Strokes_step hc hP q_90 dX7_startPoint_1 ?_
  refine lv_aload_n hx hb dX7_startPoint_4 rfl (lv_at hl 0 rfl) ?_
  refine gfWX_Strokes_first hc hP q_91 dX7_startPoint_5 ?_
  refine lv_iload_n hx hb dX7_startPoint_8 rfl (lv_at hl 1 rfl) ?_
  obtain ⟨h1, h⟩ := chk_at h
  refine azWX_Strokes_first hc hP h1 dX7_startPoint_9 ?_
  obtain ⟨h2, h⟩ := chk_at h
  refine azWX_Strokes_step hc hP h2 dX7_startPoint_10 ?_
  refine z_topi (fun x3 ex3 => ?_)
  replace h := olet_at ex3 h
  refine lv_istore_n (lv' := [(3, .int (Int32.ofInt x3)), (0, .ref (a 6)), (1, .int (Int32.ofInt v1)), (2, .ref (a 3))]) hx hb dX7_startPoint_11 rfl hl (by decide) rfl (fun ls hl => ?_)
  refine lv_iload_n hx hb dX7_startPoint_12 rfl (lv_at hl 0 rfl) ?_
  obtain ⟨S4, x6, hk5, h⟩ := ob2_at h
  refine cl_Si (As := [.int (Int32.ofInt x3)]) (rest := []) hc k_X7_pieceOf q_512 (c_X7_pieceOf hk5) hP hS rfl hl (Nat.le_of_ble_eq_true rfl) dX7_startPoint_13 (Nat.le_of_ble_eq_true rfl) (Nat.le_of_ble_eq_true rfl) rfl (fun H locs hP hS => ?_)
  obtain ⟨h7, h⟩ := chk_at h
  refine z_if_ne (tgt := 31) hx hb h7 dX7_startPoint_16 (by decide) (fun hq => ?_) (fun hq => ?_)
  · replace h := if_no hq h
    refine lv_bipush (v := Int32.ofInt (-9 : Int)) hx hb dX7_startPoint_31 (by decide) ?_
    obtain rfl := Option.some.inj h
    exact hr _ _ _ _ dX7_startPoint_33 hP hS
  · replace h := if_yes hq h
    refine lv_aload_n hx hb dX7_startPoint_19 rfl (lv_at hl 3 rfl) ?_
    refine gfWX_Edges_low hc hP q_519 dX7_startPoint_20 ?_
    refine lv_iload_n hx hb dX7_startPoint_23 rfl (lv_at hl 0 rfl) ?_
    obtain ⟨S8, x10, hk9, h⟩ := ob2_at h
    refine cl_Si (As := [.int (Int32.ofInt x3)]) (rest := [.ref (a 21)]) hc k_X7_edgeOf q_509 (c_X7_edgeOf hk9) hP hS rfl hl (Nat.le_of_ble_eq_true rfl) dX7_startPoint_24 (Nat.le_of_ble_eq_true rfl) (Nat.le_of_ble_eq_true rfl) rfl (fun H locs hP hS => ?_)
    obtain ⟨h11, h⟩ := chk_at h
    refine azWX_Edges_low hc hP h11 dX7_startPoint_27 ?_
    refine lv_goto (tgt := 33) hx hb dX7_startPoint_28 (by decide) ?_
    obtain rfl := Option.some.inj h
    exact hr _ _ _ _ dX7_startPoint_33 hP hS
abbrev rm_X7_startPoint : Room := { frames := 1, cells := 0, slots := 0, locals := 20 }
theorem c_X7_startPoint {l : Launch} {D : va_G} {a : Nat → Nat} {g : Nat → ClassId} {S : SZ} {v1 : Int} {Z1 : SZ} {r1 : Int} (h : f_X7_startPoint S v1 = some (Z1, r1)) : MetI l D (tysWX g) (WX a g) E0 yX7_startPoint cX7_startPoint 4 (some .int) rm_X7_startPoint [.ref (a 6), .int (Int32.ofInt v1), .ref (a 3)] (em S) (em Z1, Int32.ofInt r1) := mk_i (WX_same a g) (by decide) (em Z1, Int32.ofInt r1) (Nat.le_of_ble_eq_true rfl) (fun p e s m args below meth c A Q hc hE hr => t_X7_startPoint (z := (Z1, r1)) hc hr S v1 h)
theorem k_X7_startPoint : CalV RX7 yX7_startPoint cX7_startPoint 4 (some .int) rm_X7_startPoint 2 := ⟨q_779, q_780, q_34, q_781, by decide +kernel, rfl, rfl⟩
set_option maxHeartbeats 4000000 in
set_option maxRecDepth 100000 in
theorem t_X7_endPoint {z : SZ × Int} (hc : Cx p R s m args c D (tysWX g) A (WX a g) cX7_endPoint 4 RX7 2 44) (hr : Rti p l e R s m args below meth c Q D A (WX a g) cX7_endPoint (em z.1, Int32.ofInt z.2)) : ∀ (S : SZ) (v1 : Int), f_X7_endPoint S v1 = some z → Go p l e R s m args below meth c Q D A (WX a g) 4 (em S) 0 [(0, .ref (a 6)), (1, .int (Int32.ofInt v1)), (2, .ref (a 3)), (3, .ref (a 5))] [] := by
  obtain ⟨⟨hx, hb, hml, hown, hts⟩, -, -, -, hnf, hno⟩ := id hc
  intro S v1 h H locs ls hP hS hl
  rw [f_X7_endPoint] at h
  replace hl : lv_has ls 4 [(0, .ref (a 6)), (1, .int (Int32.ofInt v1)), (2, .ref (a 3)), (3, .ref (a 5))] := hl
  refine lv_aload_n hx hb dX7_endPoint_0 rfl (lv_at hl 0 rfl) ?_
  refine gfWX_Strokes_step hc hP q_90 dX7_endPoint_1 ?_
  refine lv_aload_n hx hb dX7_endPoint_4 rfl (lv_at hl 0 rfl) ?_
  refine gfWX_Strokes_first hc hP q_91 dX7_endPoint_5 ?_
  refine lv_iload_n hx hb dX7_endPoint_8 rfl (lv_at hl 1 rfl) ?_
  obtain ⟨h1, h⟩ := chk_at h
  refine azWX_Strokes_first hc hP h1 dX7_endPoint_9 ?_
  refine lv_aload_n hx hb dX7_endPoint_10 rfl (lv_at hl 0 rfl) ?_
  refine lv_iload_n hx hb dX7_endPoint_11 rfl (lv_at hl 1 rfl) ?_
  obtain ⟨S2, x4, hk3, h⟩ := ob2_at h
  refine cl_Vi (As := [.int (Int32.ofInt v1)]) (rest := [.int (Int32.ofInt (za S 20 (v1).toNat)), .ref (a 32)]) hc k_X7_length q_786 (c_X7_length hk3) hP hS (WX_6 a g (em S)) rfl rfl rfl hl (Nat.le_of_ble_eq_true rfl) dX7_endPoint_12 (Nat.le_of_ble_eq_true rfl) (Nat.le_of_ble_eq_true rfl) rfl (fun H locs hP hS => ?_)
  refine z_iadd hx hb dX7_endPoint_15 ?_
  refine lv_iconst (v := Int32.ofInt (1 : Int)) hx hb dX7_endPoint_16 (by decide) ?_
  refine z_isub hx hb dX7_endPoint_17 ?_
  obtain ⟨h5, h⟩ := chk_at h
  refine azWX_Strokes_step hc hP h5 dX7_endPoint_18 ?_
  refine lv_aload_n hx hb dX7_endPoint_19 rfl (lv_at hl 2 rfl) ?_
  refine lv_aload_n hx hb dX7_endPoint_20 rfl (lv_at hl 3 rfl) ?_
  obtain ⟨S6, x8, hk7, h⟩ := ob2_at h
  refine cl_Si (As := [.int (Int32.ofInt (za S2 19 ((((za S 20 (v1).toNat) + x4) - (1 : Int))).toNat)), .ref (a 3), .ref (a 5)]) (rest := []) hc k_X7_pointBehind q_515 (c_X7_pointBehind hk7) hP hS rfl hl (Nat.le_of_ble_eq_true rfl) dX7_endPoint_21 (Nat.le_of_ble_eq_true rfl) (Nat.le_of_ble_eq_true rfl) rfl (fun H locs hP hS => ?_)
  obtain rfl := Option.some.inj h
  exact hr _ _ _ _ dX7_endPoint_24 hP hS
abbrev rm_X7_endPoint : Room := { frames := 2, cells := 0, slots := 0, locals := 44 }
theorem c_X7_endPoint {l : Launch} {D : va_G} {a : Nat → Nat} {g : Nat → ClassId} {S : SZ} {v1 : Int} {Z1 : SZ} {r1 : Int} (h : f_X7_endPoint S v1 = some (Z1, r1)) : MetI l D (tysWX g) (WX a g) E0 yX7_endPoint cX7_endPoint 4 (some .int) rm_X7_endPoint [.ref (a 6), .int (Int32.ofInt v1), .ref (a 3), .ref (a 5)] (em S) (em Z1, Int32.ofInt r1) := mk_i (WX_same a g) (by decide) (em Z1, Int32.ofInt r1) (Nat.le_of_ble_eq_true rfl) (fun p e s m args below meth c A Q hc hE hr => t_X7_endPoint (z := (Z1, r1)) hc hr S v1 h)
theorem k_X7_endPoint : CalV RX7 yX7_endPoint cX7_endPoint 4 (some .int) rm_X7_endPoint 3 := ⟨q_783, q_784, q_34, q_785, by decide +kernel, rfl, rfl⟩
end W
