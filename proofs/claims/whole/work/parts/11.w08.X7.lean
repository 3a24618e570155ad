section W
variable {p : Program} {l : Launch} {e : Env} {R : Room} {s : State} {m : MethodId} {args : Array Value} {below : List Frame} {meth : Method} {c : Code} {Q : State → Prop} {D : va_G} {A : Nat → Prop} {a : Nat → Nat} {g : Nat → ClassId}
set_option maxHeartbeats 4000000 in
set_option maxRecDepth 100000 in
theorem t_X7_isLeft {z : St × Int32} (hc : Cx p R s m args c D (tysWX g) A (WX a g) cX7_isLeft 3 RX7 0 0) (hr : Rtz p l e R s m args below meth c Q D A (WX a g) cX7_isLeft z) : ∀ (S : St) (v1 : Int32) (v2 : Int32), f_X7_isLeft S v1 v2 = some z → Go p l e R s m args below meth c Q D A (WX a g) 3 S 0 [(0, .ref (a 6)), (1, .int v1), (2, .int v2)] [] := by
  obtain ⟨⟨hx, hb, hml, hown, hts⟩, -, -, -, hnf, hno⟩ := id hc
  intro S v1 v2 h H locs ls hP hS hl
  rw [f_X7_isLeft] at h
  replace hl : lv_has ls 3 [(0, .ref (a 6)), (1, .int v1), (2, .int v2)] := hl
  refine lv_aload_n hx hb dX7_isLeft_0 rfl (lv_at hl 0 rfl) ?_
  refine gfWX_Strokes_left hc hP q_89 dX7_isLeft_1 ?_
  refine lv_iload_n hx hb dX7_isLeft_4 rfl (lv_at hl 1 rfl) ?_
  obtain ⟨h1, h⟩ := chk_at h
  refine alWX_Strokes_left hc hP h1 dX7_isLeft_5 ?_
  refine lv_iload_n hx hb dX7_isLeft_6 rfl (lv_at hl 2 rfl) ?_
  refine lv_lshr (v := ((gb S 4 (v1).toNatClampNeg) >>> ((v2).toInt64 &&& 63))) hx hb dX7_isLeft_7 rfl ?_
  refine lv_lconst (v := 1) hx hb dX7_isLeft_8 (by decide) ?_
  refine lv_land hx hb dX7_isLeft_9 ?_
  refine lv_lconst (v := 1) hx hb dX7_isLeft_10 (by decide) ?_
  refine W.lcmp hx hb dX7_isLeft_11 ?_
  refine lv_if_ne (tgt := 19) hx hb dX7_isLeft_12 (by decide) (fun hq => ?_) (fun hq => ?_)
  · replace h := if_no hq h
    refine lv_iconst (v := 0) hx hb dX7_isLeft_19 (by decide) ?_
    obtain rfl := Option.some.inj h
    exact hr (Or.inl rfl) _ _ _ _ dX7_isLeft_20 hP hS
  · replace h := if_yes hq h
    refine lv_iconst (v := 1) hx hb dX7_isLeft_15 (by decide) ?_
    refine lv_goto (tgt := 20) hx hb dX7_isLeft_16 (by decide) ?_
    obtain rfl := Option.some.inj h
    exact hr (Or.inr rfl) _ _ _ _ dX7_isLeft_20 hP hS
abbrev rm_X7_isLeft : Room := { frames := 0, cells := 0, slots := 0, locals := 0 }
theorem c_X7_isLeft {l : Launch} {D : va_G} {a : Nat → Nat} {g : Nat → ClassId} {S : St} {v1 : Int32} {v2 : Int32} {z : St × Int32} (h : f_X7_isLeft S v1 v2 = some z) : MetI l D (tysWX g) (WX a g) E0 yX7_isLeft cX7_isLeft 3 (some .boolean) rm_X7_isLeft [.ref (a 6), .int v1, .int v2] S z := mk_z (WX_same a g) (by decide) z (Nat.le_of_ble_eq_true rfl) (fun p e s m args below meth c A Q hc hE hr => t_X7_isLeft hc hr S v1 v2 h)
theorem k_X7_isLeft : CalV RX7 yX7_isLeft cX7_isLeft 3 (some .boolean) rm_X7_isLeft 2 := ⟨q_498, q_499, q_34, q_500, by decide +kernel, rfl, rfl⟩
set_option maxHeartbeats 4000000 in
set_option maxRecDepth 100000 in
theorem t_X7_stepOf {z : St × Int32} (hc : Cx p R s m args c D (tysWX g) A (WX a g) cX7_stepOf 3 RX7 0 0) (hr : Rti p l e R s m args below meth c Q D A (WX a g) cX7_stepOf z) : ∀ (S : St) (v0 : Int32) (v1 : Int32) (v2 : Int32), f_X7_stepOf S v0 v1 v2 = some z → Go p l e R s m args below meth c Q D A (WX a g) 3 S 0 [(0, .int v0), (1, .int v1), (2, .int v2)] [] := by
  obtain ⟨⟨hx, hb, hml, hown, hts⟩, -, -, -, hnf, hno⟩ := id hc
  intro S v0 v1 v2 h H locs ls hP hS hl
  rw [f_X7_stepOf] at h
  replace hl : lv_has ls 3 [(0, .int v0), (1, .int v1), (2, .int v2)] := hl
  refine lv_iload_n hx hb dX7_stepOf_0 rfl (lv_at hl 0 rfl) ?_
  refine lv_bipush (v := 7) hx hb dX7_stepOf_1 (by decide) ?_
  refine lv_ishl hx hb dX7_stepOf_3 ?_
  refine lv_iload_n hx hb dX7_stepOf_4 rfl (lv_at hl 1 rfl) ?_
  refine lv_iconst (v := 1) hx hb dX7_stepOf_5 (by decide) ?_
  refine lv_ishl hx hb dX7_stepOf_6 ?_
  refine lv_ior hx hb dX7_stepOf_7 ?_
  refine lv_iload_n hx hb dX7_stepOf_8 rfl (lv_at hl 2 rfl) ?_
  refine lv_if_eq (tgt := 16) hx hb dX7_stepOf_9 (by decide) (fun hq => ?_) (fun hq => ?_)
  · replace h := if_yes hq h
    refine lv_iconst (v := 0) hx hb dX7_stepOf_16 (by decide) ?_
    refine lv_ior hx hb dX7_stepOf_17 ?_
    obtain rfl := Option.some.inj h
    exact hr _ _ _ _ dX7_stepOf_18 hP hS
  · replace h := if_no hq h
    refine lv_iconst (v := 1) hx hb dX7_stepOf_12 (by decide) ?_
    refine lv_goto (tgt := 17) hx hb dX7_stepOf_13 (by decide) ?_
    refine lv_ior hx hb dX7_stepOf_17 ?_
    obtain rfl := Option.some.inj h
    exact hr _ _ _ _ dX7_stepOf_18 hP hS
abbrev rm_X7_stepOf : Room := { frames := 0, cells := 0, slots := 0, locals := 0 }
theorem c_X7_stepOf {l : Launch} {D : va_G} {a : Nat → Nat} {g : Nat → ClassId} {S : St} {v0 : Int32} {v1 : Int32} {v2 : Int32} {z : St × Int32} (h : f_X7_stepOf S v0 v1 v2 = some z) : MetI l D (tysWX g) (WX a g) E0 yX7_stepOf cX7_stepOf 3 (some .int) rm_X7_stepOf [.int v0, .int v1, .int v2] S z := mk_i (WX_same a g) (by decide) z (Nat.le_of_ble_eq_true rfl) (fun p e s m args below meth c A Q hc hE hr => t_X7_stepOf hc hr S v0 v1 v2 h)
theorem k_X7_stepOf : CalS yX7_stepOf cX7_stepOf 3 (some .int) rm_X7_stepOf 3 := ⟨q_502, q_34, q_503, by decide +kernel, rfl, rfl⟩
set_option maxHeartbeats 4000000 in
set_option maxRecDepth 100000 in
theorem t_X7_edgeOf {z : St × Int32} (hc : Cx p R s m args c D (tysWX g) A (WX a g) cX7_edgeOf 1 RX7 0 0) (hr : Rti p l e R s m args below meth c Q D A (WX a g) cX7_edgeOf z) : ∀ (S : St) (v0 : Int32), f_X7_edgeOf S v0 = some z → Go p l e R s m args below meth c Q D A (WX a g) 1 S 0 [(0, .int v0)] [] := by
  obtain ⟨⟨hx, hb, hml, hown, hts⟩, -, -, -, hnf, hno⟩ := id hc
  intro S v0 h H locs ls hP hS hl
  rw [f_X7_edgeOf] at h
  replace hl : lv_has ls 1 [(0, .int v0)] := hl
  refine lv_iload_n hx hb dX7_edgeOf_0 rfl (lv_at hl 0 rfl) ?_
  refine lv_bipush (v := 7) hx hb dX7_edgeOf_1 (by decide) ?_
  refine lv_ishr hx hb dX7_edgeOf_3 ?_
  obtain rfl := Option.some.inj h
  exact hr _ _ _ _ dX7_edgeOf_4 hP hS
abbrev rm_X7_edgeOf : Room := { frames := 0, cells := 0, slots := 0, locals := 0 }
theorem c_X7_edgeOf {l : Launch} {D : va_G} {a : Nat → Nat} {g : Nat → ClassId} {S : St} {v0 : Int32} {z : St × Int32} (h : f_X7_edgeOf S v0 = some z) : MetI l D (tysWX g) (WX a g) E0 yX7_edgeOf cX7_edgeOf 1 (some .int) rm_X7_edgeOf [.int v0] S z := mk_i (WX_same a g) (by decide) z (Nat.le_of_ble_eq_true rfl) (fun p e s m args below meth c A Q hc hE hr => t_X7_edgeOf hc hr S v0 h)
theorem k_X7_edgeOf : CalS yX7_edgeOf cX7_edgeOf 1 (some .int) rm_X7_edgeOf 1 := ⟨q_510, q_34, q_511, by decide +kernel, rfl, rfl⟩
set_option maxHeartbeats 4000000 in
set_option maxRecDepth 100000 in
theorem t_X7_pieceOf {z : St × Int32} (hc : Cx p R s m args c D (tysWX g) A (WX a g) cX7_pieceOf 1 RX7 0 0) (hr : Rti p l e R s m args below meth c Q D A (WX a g) cX7_pieceOf z) : ∀ (S : St) (v0 : Int32), f_X7_pieceOf S v0 = some z → Go p l e R s m args below meth c Q D A (WX a g) 1 S 0 [(0, .int v0)] [] := by
  obtain ⟨⟨hx, hb, hml, hown, hts⟩, -, -, -, hnf, hno⟩ := id hc
  intro S v0 h H locs ls hP hS hl
  rw [f_X7_pieceOf] at h
  replace hl : lv_has ls 1 [(0, .int v0)] := hl
  refine lv_iload_n hx hb dX7_pieceOf_0 rfl (lv_at hl 0 rfl) ?_
  refine lv_iconst (v := 1) hx hb dX7_pieceOf_1 (by decide) ?_
  refine lv_ishr hx hb dX7_pieceOf_2 ?_
  refine lv_bipush (v := 63) hx hb dX7_pieceOf_3 (by decide) ?_
  refine lv_iand hx hb dX7_pieceOf_5 ?_
  obtain rfl := Option.some.inj h
  exact hr _ _ _ _ dX7_pieceOf_6 hP hS
abbrev rm_X7_pieceOf : Room := { frames := 0, cells := 0, slots := 0, locals := 0 }
theorem c_X7_pieceOf {l : Launch} {D : va_G} {a : Nat → Nat} {g : Nat → ClassId} {S : St} {v0 : Int32} {z : St × Int32} (h : f_X7_pieceOf S v0 = some z) : MetI l D (tysWX g) (WX a g) E0 yX7_pieceOf cX7_pieceOf 1 (some .int) rm_X7_pieceOf [.int v0] S z := mk_i (WX_same a g) (by decide) z (Nat.le_of_ble_eq_true rfl) (fun p e s m args below meth c A Q hc hE hr => t_X7_pieceOf hc hr S v0 h)
theorem k_X7_pieceOf : CalS yX7_pieceOf cX7_pieceOf 1 (some .int) rm_X7_pieceOf 1 := ⟨q_513, q_34, q_514, by decide +kernel, rfl, rfl⟩
set_option maxHeartbeats 4000000 in
set_option maxRecDepth 100000 in
theorem t_X7_isForward {z : St × Int32} (hc : Cx p R s m args c D (tysWX g) A (WX a g) cX7_isForward 1 RX7 0 0) (hr : Rtz p l e R s m args below meth c Q D A (WX a g) cX7_isForward z) : ∀ (S : St) (v0 : Int32), f_X7_isForward S v0 = some z → Go p l e R s m args below meth c Q D A (WX a g) 1 S 0 [(0, .int v0)] [] := by
  obtain ⟨⟨hx, hb, hml, hown, hts⟩, -, -, -, hnf, hno⟩ := id hc
  intro S v0 h H locs ls hP hS hl
  rw [f_X7_isForward] at h
  replace hl : lv_has ls 1 [(0, .int v0)] := hl
  refine lv_iload_n hx hb dX7_isForward_0 rfl (lv_at hl 0 rfl) ?_
  refine lv_iconst (v := 1) hx hb dX7_isForward_1 (by decide) ?_
  refine lv_iand hx hb dX7_isForward_2 ?_
  refine lv_iconst (v := 1) hx hb dX7_isForward_3 (by decide) ?_
  refine lv_icmp_ne (tgt := 11) hx hb dX7_isForward_4 (by decide) (fun hq => ?_) (fun hq => ?_)
  · replace h := if_no hq h
    refine lv_iconst (v := 0) hx hb dX7_isForward_11 (by decide) ?_
    obtain rfl := Option.some.inj h
    exact hr (Or.inl rfl) _ _ _ _ dX7_isForward_12 hP hS
  · replace h := if_yes hq h
    refine lv_iconst (v := 1) hx hb dX7_isForward_7 (by decide) ?_
    refine lv_goto (tgt := 12) hx hb dX7_isForward_8 (by decide) ?_
    obtain rfl := Option.some.inj h
    exact hr (Or.inr rfl) _ _ _ _ dX7_isForward_12 hP hS
abbrev rm_X7_isForward : Room := { frames := 0, cells := 0, slots := 0, locals := 0 }
theorem c_X7_isForward {l : Launch} {D : va_G} {a : Nat → Nat} {g : Nat → ClassId} {S : St} {v0 : Int32} {z : St × Int32} (h : f_X7_isForward S v0 = some z) : MetI l D (tysWX g) (WX a g) E0 yX7_isForward cX7_isForward 1 (some .boolean) rm_X7_isForward [.int v0] S z := mk_z (WX_same a g) (by decide) z (Nat.le_of_ble_eq_true rfl) (fun p e s m args below meth c A Q hc hE hr => t_X7_isForward hc hr S v0 h)
theorem k_X7_isForward : CalS yX7_isForward cX7_isForward 1 (some .boolean) rm_X7_isForward 1 := ⟨q_521, q_34, q_522, by decide +kernel, rfl, rfl⟩
set_option maxHeartbeats 4000000 in
set_option maxRecDepth 100000 in
theorem t_X7_pointBehind {z : St × Int32} (hc : Cx p R s m args c D (tysWX g) A (WX a g) cX7_pointBehind 5 RX7 1 20) (hr : Rti p l e R s m args below meth c Q D A (WX a g) cX7_pointBehind z) : ∀ (S : St) (v0 : Int32), f_X7_pointBehind S v0 = some z → Go p l e R s m args below meth c Q D A (WX a g) 5 S 0 [(0, .int v0), (1, .ref (a 3)), (2, .ref (a 5))] [] := by
  obtain ⟨⟨hx, hb, hml, hown, hts⟩, -, -, -, hnf, hno⟩ := id hc
  intro S v0 h H locs ls hP hS hl
  rw [f_X7_pointBehind] at h
  replace hl : lv_has ls 5 [(0, .int v0), (1, .ref (a 3)), (2, .ref (a 5))] := hl
  refine lv_iload_n hx hb dX7_pointBehind_0 rfl (lv_at hl 0 rfl) ?_
  obtain ⟨S1, x3, hk2, h⟩ := ob2_at h
  refine cl_Si (As := [.int v0]) (rest := []) hc k_X7_edgeOf q_509 (c_X7_edgeOf hk2) hP hS rfl hl (Nat.le_of_ble_eq_true rfl) dX7_pointBehind_1 (Nat.le_of_ble_eq_true rfl) (Nat.le_of_ble_eq_true rfl) rfl (fun H locs hP hS => ?_)
  refine lv_istore_n (lv' := [(3, .int x3), (0, .int v0), (1, .ref (a 3)), (2, .ref (a 5))]) hx hb dX7_pointBehind_4 rfl hl (by decide) rfl (fun ls hl => ?_)
  refine lv_iload_n hx hb dX7_pointBehind_5 rfl (lv_at hl 1 rfl) ?_
  obtain ⟨S4, x6, hk5, h⟩ := ob2_at h
  refine cl_Si (As := [.int v0]) (rest := []) hc k_X7_pieceOf q_512 (c_X7_pieceOf hk5) hP hS rfl hl (Nat.le_of_ble_eq_true rfl) dX7_pointBehind_6 (Nat.le_of_ble_eq_true rfl) (Nat.le_of_ble_eq_true rfl) rfl (fun H locs hP hS => ?_)
  refine lv_istore (lv' := [(4, .int x6), (3, .int x3), (0, .int v0), (1, .ref (a 3)), (2, .ref (a 5))]) hx hb dX7_pointBehind_9 hl (by decide) rfl (fun ls hl => ?_)
  refine lv_iload_n hx hb dX7_pointBehind_11 rfl (lv_at hl 2 rfl) ?_
  obtain ⟨S7, x9, hk8, h⟩ := ob2_at h
  refine cl_Si (As := [.int v0]) (rest := []) hc k_X7_isForward q_520 (c_X7_isForward hk8) hP hS rfl hl (Nat.le_of_ble_eq_true rfl) dX7_pointBehind_12 (Nat.le_of_ble_eq_true rfl) (Nat.le_of_ble_eq_true rfl) rfl (fun H locs hP hS => ?_)
  refine lv_if_eq (tgt := 43) hx hb dX7_pointBehind_15 (by decide) (fun hq => ?_) (fun hq => ?_)
  · replace h := if_yes hq h
    refine lv_iload hx hb dX7_pointBehind_43 (lv_at hl 0 rfl) ?_
    refine lv_if_ne (tgt := 57) hx hb dX7_pointBehind_45 (by decide) (fun hq => ?_) (fun hq => ?_)
    · replace h := if_no hq h
      refine lv_bipush (v := -9) hx hb dX7_pointBehind_57 (by decide) ?_
      obtain rfl := Option.some.inj h
      exact hr _ _ _ _ dX7_pointBehind_59 hP hS
    · replace h := if_yes hq h
      refine lv_aload_n hx hb dX7_pointBehind_48 rfl (lv_at hl 3 rfl) ?_
      refine gfWX_Edges_low hc hP q_519 dX7_pointBehind_49 ?_
      refine lv_iload_n hx hb dX7_pointBehind_52 rfl (lv_at hl 1 rfl) ?_
      obtain ⟨h10, h⟩ := chk_at h
      refine alWX_Edges_low hc hP h10 dX7_pointBehind_53 ?_
      refine lv_goto (tgt := 59) hx hb dX7_pointBehind_54 (by decide) ?_
      obtain rfl := Option.some.inj h
      exact hr _ _ _ _ dX7_pointBehind_59 hP hS
  · replace h := if_no hq h
    refine lv_iload hx hb dX7_pointBehind_18 (lv_at hl 0 rfl) ?_
    refine lv_aload_n hx hb dX7_pointBehind_20 rfl (lv_at hl 4 rfl) ?_
    refine gfWX_Pieces_count hc hP q_496 dX7_pointBehind_21 ?_
    refine lv_iload_n hx hb dX7_pointBehind_24 rfl (lv_at hl 1 rfl) ?_
    obtain ⟨h11, h⟩ := chk_at h
    refine alWX_Pieces_count hc hP h11 dX7_pointBehind_25 ?_
    refine lv_iconst (v := 1) hx hb dX7_pointBehind_26 (by decide) ?_
    refine lv_isub hx hb dX7_pointBehind_27 ?_
    refine lv_icmp_ne (tgt := 40) hx hb dX7_pointBehind_28 (by decide) (fun hq => ?_) (fun hq => ?_)
    · replace h := if_no hq h
      refine lv_bipush (v := -9) hx hb dX7_pointBehind_40 (by decide) ?_
      obtain rfl := Option.some.inj h
      exact hr _ _ _ _ dX7_pointBehind_42 hP hS
    · replace h := if_yes hq h
      refine lv_aload_n hx hb dX7_pointBehind_31 rfl (lv_at hl 3 rfl) ?_
      refine gfWX_Edges_high hc hP q_518 dX7_pointBehind_32 ?_
      refine lv_iload_n hx hb dX7_pointBehind_35 rfl (lv_at hl 1 rfl) ?_
      obtain ⟨h12, h⟩ := chk_at h
      refine alWX_Edges_high hc hP h12 dX7_pointBehind_36 ?_
      refine lv_goto (tgt := 42) hx hb dX7_pointBehind_37 (by decide) ?_
      obtain rfl := Option.some.inj h
      exact hr _ _ _ _ dX7_pointBehind_42 hP hS
abbrev rm_X7_pointBehind : Room := { frames := 1, cells := 0, slots := 0, locals := 20 }
theorem c_X7_pointBehind {l : Launch} {D : va_G} {a : Nat → Nat} {g : Nat → ClassId} {S : St} {v0 : Int32} {z : St × Int32} (h : f_X7_pointBehind S v0 = some z) : MetI l D (tysWX g) (WX a g) E0 yX7_pointBehind cX7_pointBehind 5 (some .int) rm_X7_pointBehind [.int v0, .ref (a 3), .ref (a 5)] S z := mk_i (WX_same a g) (by decide) z (Nat.le_of_ble_eq_true rfl) (fun p e s m args below meth c A Q hc hE hr => t_X7_pointBehind hc hr S v0 h)
theorem k_X7_pointBehind : CalS yX7_pointBehind cX7_pointBehind 5 (some .int) rm_X7_pointBehind 3 := ⟨q_516, q_34, q_517, by decide +kernel, rfl, rfl⟩
set_option maxHeartbeats 4000000 in
set_option maxRecDepth 100000 in
theorem t_X7_stepFrom_p61 {z : St × Int32} (hc : Cx p R s m args c D (tysWX g) A (WX a g) cX7_stepFrom 6 RX7 1 22) (hr : Rti p l e R s m args below meth c Q D A (WX a g) cX7_stepFrom z) {k12 : St → Int32 → Int32 → Option (St × Int32)} (K12 : ∀ (S : St) (v1 : Int32) (v4 : Int32), k12 S v1 v4 = some z → Go p l e R s m args below meth c Q D A (WX a g) 6 S 12 [(0, .ref (a 6)), (1, .int v1), (2, .ref (a 3)), (3, .ref (a 5)), (4, .int v4)] []) : ∀ (S : St) (v1 : Int32) (v4 : Int32) (v5 : Int32), f_X7_stepFrom_p61 k12 S v1 v4 v5 = some z → Go p l e R s m args below meth c Q D A (WX a g) 6 S 61 [(0, .ref (a 6)), (1, .int v1), (2, .ref (a 3)), (3, .ref (a 5)), (4, .int v4), (5, .int v5)] [] := by
  obtain ⟨⟨hx, hb, hml, hown, hts⟩, -, -, -, hnf, hno⟩ := id hc
  intro S v1 v4 v5 h H locs ls hP hS hl
  rw [f_X7_stepFrom_p61] at h
  refine lv_aload_n hx hb dX7_stepFrom_61 rfl (lv_at hl 2 rfl) ?_
  refine gfWX_Edges_high hc hP q_518 dX7_stepFrom_62 ?_
  refine lv_iload hx hb dX7_stepFrom_65 (lv_at hl 4 rfl) ?_
  obtain ⟨h1, h⟩ := chk_at h
  refine alWX_Edges_high hc hP h1 dX7_stepFrom_67 ?_
  refine lv_iload_n hx hb dX7_stepFrom_68 rfl (lv_at hl 1 rfl) ?_
  refine lv_icmp_ne (tgt := 92) hx hb dX7_stepFrom_69 (by decide) (fun hq => ?_) (fun hq => ?_)
  · replace h := if_no hq h
    obtain ⟨x2, ex2⟩ : ∃ y : Int32, y = v4 + (1 : Int32) := ⟨_, rfl⟩
    replace h := olet_at ex2 h
    refine lv_iinc (v := x2) (lv' := [(4, .int x2), (0, .ref (a 6)), (1, .int v1), (2, .ref (a 3)), (3, .ref (a 5)), (5, .int v5)]) hx hb dX7_stepFrom_92 hl (k := 4) rfl (by rw [ex2]; rfl) (by decide) rfl (fun ls hl => ?_)
    refine lv_goto (tgt := 12) hx hb dX7_stepFrom_95 (by decide) ?_
    exact K12 S v1 x2 h H locs ls hP hS (lv_sub hl [1, 2, 3, 4, 0] rfl)
  · replace h := if_yes hq h
    refine lv_aload_n hx hb dX7_stepFrom_72 rfl (lv_at hl 0 rfl) ?_
    refine lv_iload hx hb dX7_stepFrom_73 (lv_at hl 4 rfl) ?_
    refine lv_iload hx hb dX7_stepFrom_75 (lv_at hl 5 rfl) ?_
    obtain ⟨S3, x5, hk4, h⟩ := ob2_at h
    refine cl_Vi (As := [.int v4, .int v5]) (rest := []) hc k_X7_isLeft q_497 (c_X7_isLeft hk4) hP hS (WX_6 a g S) rfl rfl rfl hl (Nat.le_of_ble_eq_true rfl) dX7_stepFrom_77 (Nat.le_of_ble_eq_true rfl) (Nat.le_of_ble_eq_true rfl) rfl (fun H locs hP hS => ?_)
    refine lv_if_eq (tgt := 92) hx hb dX7_stepFrom_80 (by decide) (fun hq => ?_) (fun hq => ?_)
    · replace h := if_yes hq h
      obtain ⟨x6, ex6⟩ : ∃ y : Int32, y = v4 + (1 : Int32) := ⟨_, rfl⟩
      replace h := olet_at ex6 h
      refine lv_iinc (v := x6) (lv' := [(4, .int x6), (0, .ref (a 6)), (1, .int v1), (2, .ref (a 3)), (3, .ref (a 5)), (5, .int v5)]) hx hb dX7_stepFrom_92 hl (k := 4) rfl (by rw [ex6]; rfl) (by decide) rfl (fun ls hl => ?_)
      refine lv_goto (tgt := 12) hx hb dX7_stepFrom_95 (by decide) ?_
      exact K12 S3 v1 x6 h H locs ls hP hS (lv_sub hl [1, 2, 3, 4, 0] rfl)
    · replace h := if_no hq h
      refine lv_iload hx hb dX7_stepFrom_83 (lv_at hl 4 rfl) ?_
      refine lv_iload hx hb dX7_stepFrom_85 (lv_at hl 5 rfl) ?_
      refine lv_iconst (v := 0) hx hb dX7_stepFrom_87 (by decide) ?_
      obtain ⟨S7, x9, hk8, h⟩ := ob2_at h
      refine cl_Si (As := [.int v4, .int v5, .int (0 : Int32)]) (rest := []) hc k_X7_stepOf q_501 (c_X7_stepOf hk8) hP hS rfl hl (Nat.le_of_ble_eq_true rfl) dX7_stepFrom_88 (Nat.le_of_ble_eq_true rfl) (Nat.le_of_ble_eq_true rfl) rfl (fun H locs hP hS => ?_)
      obtain rfl := Option.some.inj h
      exact hr _ _ _ _ dX7_stepFrom_91 hP hS
set_option maxHeartbeats 4000000 in
set_option maxRecDepth 100000 in
theorem t_X7_stepFrom_p12 {z : St × Int32} (hc : Cx p R s m args c D (tysWX g) A (WX a g) cX7_stepFrom 6 RX7 1 22) (hr : Rti p l e R s m args below meth c Q D A (WX a g) cX7_stepFrom z) : ∀ (fu : Nat) (S : St) (v1 : Int32) (v4 : Int32), f_X7_stepFrom_p12 fu S v1 v4 = some z → Go p l e R s m args below meth c Q D A (WX a g) 6 S 12 [(0, .ref (a 6)), (1, .int v1), (2, .ref (a 3)), (3, .ref (a 5)), (4, .int v4)] [] := by
  obtain ⟨⟨hx, hb, hml, hown, hts⟩, -, -, -, hnf, hno⟩ := id hc
  intro fu
  induction fu with
  | zero =>
    intro S v1 v4 h
    rw [f_X7_stepFrom_p12] at h
    cases h
  | succ fu ih =>
    intro S v1 v4 h H locs ls hP hS hl
    rw [f_X7_stepFrom_p12] at h
    refine lv_iload hx hb dX7_stepFrom_12 (lv_at hl 4 rfl) ?_
    refine lv_aload_n hx hb dX7_stepFrom_14 rfl (lv_at hl 2 rfl) ?_
    refine gfWX_Edges_count hc hP q_494 dX7_stepFrom_15 ?_
    refine lv_icmp_ge (tgt := 98) hx hb dX7_stepFrom_18 (by decide) (fun hq => ?_) (fun hq => ?_)
    · replace h := if_yes hq h
      refine lv_bipush (v := -9) hx hb dX7_stepFrom_98 (by decide) ?_
      obtain rfl := Option.some.inj h
      exact hr _ _ _ _ dX7_stepFrom_100 hP hS
    · replace h := if_no hq h
      refine lv_aload_n hx hb dX7_stepFrom_21 rfl (lv_at hl 3 rfl) ?_
      refine gfWX_Pieces_count hc hP q_496 dX7_stepFrom_22 ?_
      refine lv_iload hx hb dX7_stepFrom_25 (lv_at hl 4 rfl) ?_
      obtain ⟨h1, h⟩ := chk_at h
      refine alWX_Pieces_count hc hP h1 dX7_stepFrom_27 ?_
      refine lv_iconst (v := 1) hx hb dX7_stepFrom_28 (by decide) ?_
      refine lv_isub hx hb dX7_stepFrom_29 ?_
      refine lv_topi (fun x2 ex2 => ?_)
      replace h := olet_at ex2 h
      refine lv_istore (lv' := [(5, .int x2), (0, .ref (a 6)), (1, .int v1), (2, .ref (a 3)), (3, .ref (a 5)), (4, .int v4)]) hx hb dX7_stepFrom_30 hl (by decide) rfl (fun ls hl => ?_)
      refine lv_aload_n hx hb dX7_stepFrom_32 rfl (lv_at hl 3 rfl) ?_
      refine gfWX_Edges_low hc hP q_519 dX7_stepFrom_33 ?_
      refine lv_iload hx hb dX7_stepFrom_36 (lv_at hl 5 rfl) ?_
      obtain ⟨h3, h⟩ := chk_at h
      refine alWX_Edges_low hc hP h3 dX7_stepFrom_38 ?_
      refine lv_iload_n hx hb dX7_stepFrom_39 rfl (lv_at hl 2 rfl) ?_
      refine lv_icmp_ne (tgt := 61) hx hb dX7_stepFrom_40 (by decide) (fun hq => ?_) (fun hq => ?_)
      · replace h := if_no hq h
        exact t_X7_stepFrom_p61 hc hr ih S v1 v4 x2 h H locs ls hP hS (lv_sub hl [1, 2, 3, 4, 5, 0] rfl)
      · replace h := if_yes hq h
        refine lv_aload_n hx hb dX7_stepFrom_43 rfl (lv_at hl 1 rfl) ?_
        refine lv_iload hx hb dX7_stepFrom_44 (lv_at hl 5 rfl) ?_
        refine lv_iconst (v := 0) hx hb dX7_stepFrom_46 (by decide) ?_
        obtain ⟨S4, x6, hk5, h⟩ := ob2_at h
        refine cl_Vi (As := [.int v4, .int (0 : Int32)]) (rest := []) hc k_X7_isLeft q_497 (c_X7_isLeft hk5) hP hS (WX_6 a g S) rfl rfl rfl hl (Nat.le_of_ble_eq_true rfl) dX7_stepFrom_47 (Nat.le_of_ble_eq_true rfl) (Nat.le_of_ble_eq_true rfl) rfl (fun H locs hP hS => ?_)
        refine lv_if_eq (tgt := 61) hx hb dX7_stepFrom_50 (by decide) (fun hq => ?_) (fun hq => ?_)
        · replace h := if_yes hq h
          exact t_X7_stepFrom_p61 hc hr ih S4 v1 v4 x2 h H locs ls hP hS (lv_sub hl [1, 2, 3, 4, 5, 0] rfl)
        · replace h := if_no hq h
          refine lv_iload hx hb dX7_stepFrom_53 (lv_at hl 5 rfl) ?_
          refine lv_iconst (v := 0) hx hb dX7_stepFrom_55 (by decide) ?_
          refine lv_iconst (v := 1) hx hb dX7_stepFrom_56 (by decide) ?_
          obtain ⟨S7, x9, hk8, h⟩ := ob2_at h
          refine cl_Si (As := [.int v4, .int (0 : Int32), .int (1 : Int32)]) (rest := []) hc k_X7_stepOf q_501 (c_X7_stepOf hk8) hP hS rfl hl (Nat.le_of_ble_eq_true rfl) dX7_stepFrom_57 (Nat.le_of_ble_eq_true rfl) (Nat.le_of_ble_eq_true rfl) rfl (fun H locs hP hS => ?_)
          obtain rfl := Option.some.inj h
          exact hr _ _ _ _ dX7_stepFrom_60 hP hS
set_option maxHeartbeats 4000000 in
set_option maxRecDepth 100000 in
theorem t_X7_stepFrom {z : St × Int32} (hc : Cx p R s m args c D (tysWX g) A (WX a g) cX7_stepFrom 6 RX7 1 22) (hr : Rti p l e R s m args below meth c Q D A (WX a g) cX7_stepFrom z) : ∀ (S : St) (v1 : Int32), f_X7_stepFrom S v1 = some z → Go p l e R s m args below meth c Q D A (WX a g) 6 S 0 [(0, .ref (a 6)), (1, .int v1), (2, .ref (a 3)), (3, .ref (a 5))] [] := by
  obtain ⟨⟨hx, hb, hml, hown, hts⟩, -, -, -, hnf, hno⟩ := id hc
  intro S v1 h H locs ls hP hS hl
  rw [f_X7_stepFrom] at h
  replace hl : lv_has ls 6 [(0, .ref (a 6)), (1, .int v1), (2, .ref (a 3)), (3, .ref (a 5))] := hl
  refine lv_iload_n hx hb dX7_stepFrom_0 rfl (lv_at hl 1 rfl) ?_
  refine lv_bipush (v := -9) hx hb dX7_stepFrom_1 (by decide) ?_
  refine lv_icmp_ne (tgt := 9) hx hb dX7_stepFrom_3 (by decide) (fun hq => ?_) (fun hq => ?_)
  · replace h := if_no hq h
    refine lv_iconst (v := 0) hx hb dX7_stepFrom_9 (by decide) ?_
    refine lv_istore (lv' := [(4, .int (0 : Int32)), (0, .ref (a 6)), (1, .int v1), (2, .ref (a 3)), (3, .ref (a 5))]) hx hb dX7_stepFrom_10 hl (by decide) rfl (fun ls hl => ?_)
    exact t_X7_stepFrom_p12 hc hr FU S v1 (0 : Int32) h H locs ls hP hS (lv_sub hl [1, 2, 3, 4, 0] rfl)
  · replace h := if_yes hq h
    refine lv_bipush (v := -9) hx hb dX7_stepFrom_6 (by decide) ?_
    obtain rfl := Option.some.inj h
    exact hr _ _ _ _ dX7_stepFrom_8 hP hS
abbrev rm_X7_stepFrom : Room := { frames := 1, cells := 0, slots := 0, locals := 22 }
theorem c_X7_stepFrom {l : Launch} {D : va_G} {a : Nat → Nat} {g : Nat → ClassId} {S : St} {v1 : Int32} {z : St × Int32} (h : f_X7_stepFrom S v1 = some z) : MetI l D (tysWX g) (WX a g) E0 yX7_stepFrom cX7_stepFrom 6 (some .int) rm_X7_stepFrom [.ref (a 6), .int v1, .ref (a 3), .ref (a 5)] S z := mk_i (WX_same a g) (by decide) z (Nat.le_of_ble_eq_true rfl) (fun p e s m args below meth c A Q hc hE hr => t_X7_stepFrom hc hr S v1 h)
theorem k_X7_stepFrom : CalV RX7 yX7_stepFrom cX7_stepFrom 6 (some .int) rm_X7_stepFrom 3 := ⟨q_524, q_525, q_34, q_526, by decide +kernel, rfl, rfl⟩
set_option maxHeartbeats 4000000 in
set_option maxRecDepth 100000 in
theorem t_X7_draw_p3 {z : St} (hc : Cx p R s m args c D (tysWX g) A (WX a g) cX7_draw 5 RX7 2 47) (hr : Rtv p l e R s m args below meth c Q D A (WX a g) cX7_draw z) : ∀ (fu : Nat) (S : St) (v4 : Int32), f_X7_draw_p3 fu S v4 = some z → Go p l e R s m args below meth c Q D A (WX a g) 5 S 3 [(0, .ref (a 6)), (2, .ref (a 3)), (3, .ref (a 5)), (4, .int v4)] [] := by
  obtain ⟨⟨hx, hb, hml, hown, hts⟩, -, -, -, hnf, hno⟩ := id hc
  intro fu
  induction fu with
  | zero =>
    intro S v4 h
    rw [f_X7_draw_p3] at h
    cases h
  | succ fu ih =>
    intro S v4 h H locs ls hP hS hl
    rw [f_X7_draw_p3] at h
    refine lv_iload hx hb dX7_draw_3 (lv_at hl 3 rfl) ?_
    refine lv_bipush (v := -9) hx hb dX7_draw_5 (by decide) ?_
    refine lv_icmp_eq (tgt := 83) hx hb dX7_draw_7 (by decide) (fun hq => ?_) (fun hq => ?_)
    · replace h := if_yes hq h
      obtain rfl := Option.some.inj h
      exact hr _ _ _ _ dX7_draw_83 hP hS
    · replace h := if_no hq h
      refine lv_aload_n hx hb dX7_draw_10 rfl (lv_at hl 0 rfl) ?_
      refine gfWX_Strokes_steps hc hP q_493 dX7_draw_11 ?_
      refine lv_sipush (v := 2000) hx hb dX7_draw_14 (by decide) ?_
      refine lv_icmp_ge (tgt := 83) hx hb dX7_draw_17 (by decide) (fun hq => ?_) (fun hq => ?_)
      · replace h := if_yes hq h
        obtain rfl := Option.some.inj h
        exact hr _ _ _ _ dX7_draw_83 hP hS
      · replace h := if_no hq h
        refine lv_aload_n hx hb dX7_draw_20 rfl (lv_at hl 0 rfl) ?_
        refine gfWX_Strokes_step hc hP q_90 dX7_draw_21 ?_
        refine lv_aload_n hx hb dX7_draw_24 rfl (lv_at hl 0 rfl) ?_
        refine gfWX_Strokes_steps hc hP q_493 dX7_draw_25 ?_
        refine lv_iload hx hb dX7_draw_28 (lv_at hl 3 rfl) ?_
        obtain ⟨h1, h⟩ := chk_at h
        refine asWX_Strokes_step hc hP hS h1 dX7_draw_30 (fun H locs hP hS => ?_)
        obtain ⟨S2, eS2⟩ : ∃ z, z = sa S 19 ((gi S 16)).toNatClampNeg v4 := ⟨_, rfl⟩
        replace h := olet_at eS2 h
        rw [← eS2] at hP
        refine lv_aload_n hx hb dX7_draw_31 rfl (lv_at hl 0 rfl) ?_
        refine lv_dup hx hb dX7_draw_32 rfl ?_
        refine gfWX_Strokes_steps hc hP q_493 dX7_draw_33 ?_
        refine lv_iconst (v := 1) hx hb dX7_draw_36 (by decide) ?_
        refine lv_iadd hx hb dX7_draw_37 ?_
        refine pfWX_Strokes_steps hc hP hS q_493 dX7_draw_38 (fun H locs hP hS => ?_)
        obtain ⟨S3, eS3⟩ : ∃ z, z = si S2 16 ((gi S2 16) + (1 : Int32)) := ⟨_, rfl⟩
        replace h := olet_at eS3 h
        rw [← eS3] at hP
        refine lv_aload_n hx hb dX7_draw_41 rfl (lv_at hl 0 rfl) ?_
        refine gfWX_Strokes_left hc hP q_89 dX7_draw_42 ?_
        refine lv_iload hx hb dX7_draw_45 (lv_at hl 3 rfl) ?_
        obtain ⟨S4, x6, hk5, h⟩ := ob2_at h
        refine cl_Si (As := [.int v4]) (rest := [.ref (a 31)]) hc k_X7_edgeOf q_509 (c_X7_edgeOf hk5) hP hS rfl hl (Nat.le_of_ble_eq_true rfl) dX7_draw_47 (Nat.le_of_ble_eq_true rfl) (Nat.le_of_ble_eq_true rfl) rfl (fun H locs hP hS => ?_)
        refine lv_dup2_11 hx hb dX7_draw_50 rfl rfl ?_
        obtain ⟨h7, h⟩ := chk_at h
        refine alWX_Strokes_left hc hP h7 dX7_draw_51 ?_
        refine lv_lconst (v := 1) hx hb dX7_draw_52 (by decide) ?_
        refine lv_iload hx hb dX7_draw_53 (lv_at hl 3 rfl) ?_
        obtain ⟨S8, x10, hk9, h⟩ := ob2_at h
        refine cl_Si (As := [.int v4]) (rest := [.long (1 : Int64), .long (gb S4 4 (x6).toNatClampNeg), .int x6, .ref (a 31)]) hc k_X7_pieceOf q_512 (c_X7_pieceOf hk9) hP hS rfl hl (Nat.le_of_ble_eq_true rfl) dX7_draw_55 (Nat.le_of_ble_eq_true rfl) (Nat.le_of_ble_eq_true rfl) rfl (fun H locs hP hS => ?_)
        refine lv_lshl (v := ((1 : Int64) <<< ((x10).toInt64 &&& 63))) hx hb dX7_draw_58 rfl ?_
        refine lv_ldc2 (v := -1) hx hb hown (hts _ q_508) dX7_draw_59 ?_
        refine lv_lxor hx hb dX7_draw_62 ?_
        refine lv_land hx hb dX7_draw_63 ?_
        obtain ⟨h11, h⟩ := chk_at h
        refine asWX_Strokes_left hc hP hS h11 dX7_draw_64 (fun H locs hP hS => ?_)
        obtain ⟨S12, eS12⟩ : ∃ z, z = sb S8 4 (x6).toNatClampNeg ((gb S4 4 (x6).toNatClampNeg) &&& (((1 : Int64) <<< ((x10).toInt64 &&& 63)) ^^^ (-1 : Int64))) := ⟨_, rfl⟩
        replace h := olet_at eS12 h
        rw [← eS12] at hP
        refine lv_aload_n hx hb dX7_draw_65 rfl (lv_at hl 0 rfl) ?_
        refine lv_iload hx hb dX7_draw_66 (lv_at hl 3 rfl) ?_
        refine lv_aload_n hx hb dX7_draw_68 rfl (lv_at hl 1 rfl) ?_
        refine lv_aload_n hx hb dX7_draw_69 rfl (lv_at hl 2 rfl) ?_
        obtain ⟨S13, x15, hk14, h⟩ := ob2_at h
        refine cl_Si (As := [.int v4, .ref (a 3), .ref (a 5)]) (rest := [.ref (a 6)]) hc k_X7_pointBehind q_515 (c_X7_pointBehind hk14) hP hS rfl hl (Nat.le_of_ble_eq_true rfl) dX7_draw_70 (Nat.le_of_ble_eq_true rfl) (Nat.le_of_ble_eq_true rfl) rfl (fun H locs hP hS => ?_)
        refine lv_aload_n hx hb dX7_draw_73 rfl (lv_at hl 1 rfl) ?_
        refine lv_aload_n hx hb dX7_draw_74 rfl (lv_at hl 2 rfl) ?_
        obtain ⟨S16, x18, hk17, h⟩ := ob2_at h
        refine cl_Vi (As := [.int x15, .ref (a 3), .ref (a 5)]) (rest := []) hc k_X7_stepFrom q_523 (c_X7_stepFrom hk17) hP hS (WX_6 a g S13) rfl rfl rfl hl (Nat.le_of_ble_eq_true rfl) dX7_draw_75 (Nat.le_of_ble_eq_true rfl) (Nat.le_of_ble_eq_true rfl) rfl (fun H locs hP hS => ?_)
        refine lv_istore (lv' := [(4, .int x18), (0, .ref (a 6)), (2, .ref (a 3)), (3, .ref (a 5))]) hx hb dX7_draw_78 hl (by decide) rfl (fun ls hl => ?_)
        refine lv_goto (tgt := 3) hx hb dX7_draw_80 (by decide) ?_
        exact ih S16 x18 h H locs ls hP hS (lv_sub hl [1, 2, 3, 0] rfl)
set_option maxHeartbeats 4000000 in
set_option maxRecDepth 100000 in
theorem t_X7_draw {z : St} (hc : Cx p R s m args c D (tysWX g) A (WX a g) cX7_draw 5 RX7 2 47) (hr : Rtv p l e R s m args below meth c Q D A (WX a g) cX7_draw z) : ∀ (S : St) (v1 : Int32), f_X7_draw S v1 = some z → Go p l e R s m args below meth c Q D A (WX a g) 5 S 0 [(0, .ref (a 6)), (1, .int v1), (2, .ref (a 3)), (3, .ref (a 5))] [] := by
  obtain ⟨⟨hx, hb, hml, hown, hts⟩, -, -, -, hnf, hno⟩ := id hc
  intro S v1 h H locs ls hP hS hl
  rw [f_X7_draw] at h
  replace hl : lv_has ls 5 [(0, .ref (a 6)), (1, .int v1), (2, .ref (a 3)), (3, .ref (a 5))] := hl
  refine lv_iload_n hx hb dX7_draw_0 rfl (lv_at hl 1 rfl) ?_
  refine lv_istore (lv' := [(4, .int v1), (0, .ref (a 6)), (1, .int v1), (2, .ref (a 3)), (3, .ref (a 5))]) hx hb dX7_draw_1 hl (by decide) rfl (fun ls hl => ?_)
  exact t_X7_draw_p3 hc hr FU S v1 h H locs ls hP hS (lv_sub hl [1, 3, 4, 0] rfl)
abbrev rm_X7_draw : Room := { frames := 2, cells := 0, slots := 0, locals := 47 }
theorem c_X7_draw {l : Launch} {D : va_G} {a : Nat → Nat} {g : Nat → ClassId} {S : St} {v1 : Int32} {z : St} (h : f_X7_draw S v1 = some z) : MetV l D (tysWX g) (WX a g) E0 yX7_draw cX7_draw 5 none rm_X7_draw [.ref (a 6), .int v1, .ref (a 3), .ref (a 5)] S z := mk_v (WX_same a g) (by decide) z (Nat.le_of_ble_eq_true rfl) (fun p e s m args below meth c A Q hc hE hr => t_X7_draw hc hr S v1 h)
theorem k_X7_draw : CalV RX7 yX7_draw cX7_draw 5 none rm_X7_draw 3 := ⟨q_505, q_506, q_34, q_507, by decide +kernel, rfl, rfl⟩
set_option maxHeartbeats 4000000 in
set_option maxRecDepth 100000 in
theorem t_X7_rebuild_p51 {z : St} (hc : Cx p R s m args c D (tysWX g) A (WX a g) cX7_rebuild 5 RX7 3 71) (hr : Rtv p l e R s m args below meth c Q D A (WX a g) cX7_rebuild z) {k40 : St → Int32 → Option (St)} (K40 : ∀ (S : St) (v3 : Int32), k40 S v3 = some z → Go p l e R s m args below meth c Q D A (WX a g) 5 S 40 [(0, .ref (a 6)), (1, .ref (a 3)), (2, .ref (a 5)), (3, .int v3)] []) : ∀ (fu : Nat) (S : St) (v3 : Int32) (v4 : Int32), f_X7_rebuild_p51 k40 fu S v3 v4 = some z → Go p l e R s m args below meth c Q D A (WX a g) 5 S 51 [(0, .ref (a 6)), (1, .ref (a 3)), (2, .ref (a 5)), (3, .int v3), (4, .int v4)] [] := by
  obtain ⟨⟨hx, hb, hml, hown, hts⟩, -, -, -, hnf, hno⟩ := id hc
  intro fu
  induction fu with
  | zero =>
    intro S v3 v4 h
    rw [f_X7_rebuild_p51] at h
    cases h
  | succ fu ih =>
    intro S v3 v4 h H locs ls hP hS hl
    rw [f_X7_rebuild_p51] at h
    refine lv_iload hx hb dX7_rebuild_51 (lv_at hl 4 rfl) ?_
    refine lv_aload_n hx hb dX7_rebuild_53 rfl (lv_at hl 2 rfl) ?_
    refine gfWX_Pieces_count hc hP q_496 dX7_rebuild_54 ?_
    refine lv_iload_n hx hb dX7_rebuild_57 rfl (lv_at hl 3 rfl) ?_
    obtain ⟨h1, h⟩ := chk_at h
    refine alWX_Pieces_count hc hP h1 dX7_rebuild_58 ?_
    refine lv_icmp_ge (tgt := 124) hx hb dX7_rebuild_59 (by decide) (fun hq => ?_) (fun hq => ?_)
    · replace h := if_yes hq h
      obtain ⟨x2, ex2⟩ : ∃ y : Int32, y = v3 + (1 : Int32) := ⟨_, rfl⟩
      replace h := olet_at ex2 h
      refine lv_iinc (v := x2) (lv' := [(3, .int x2), (0, .ref (a 6)), (1, .ref (a 3)), (2, .ref (a 5)), (4, .int v4)]) hx hb dX7_rebuild_124 hl (k := 3) rfl (by rw [ex2]; rfl) (by decide) rfl (fun ls hl => ?_)
      refine lv_goto (tgt := 40) hx hb dX7_rebuild_127 (by decide) ?_
      exact K40 S x2 h H locs ls hP hS (lv_sub hl [1, 2, 3, 0] rfl)
    · replace h := if_no hq h
      refine lv_aload_n hx hb dX7_rebuild_62 rfl (lv_at hl 0 rfl) ?_
      refine lv_iload_n hx hb dX7_rebuild_63 rfl (lv_at hl 3 rfl) ?_
      refine lv_iload hx hb dX7_rebuild_64 (lv_at hl 4 rfl) ?_
      obtain ⟨S3, x5, hk4, h⟩ := ob2_at h
      refine cl_Vi (As := [.int v3, .int v4]) (rest := []) hc k_X7_isLeft q_497 (c_X7_isLeft hk4) hP hS (WX_6 a g S) rfl rfl rfl hl (Nat.le_of_ble_eq_true rfl) dX7_rebuild_66 (Nat.le_of_ble_eq_true rfl) (Nat.le_of_ble_eq_true rfl) rfl (fun H locs hP hS => ?_)
      refine lv_if_eq (tgt := 118) hx hb dX7_rebuild_69 (by decide) (fun hq => ?_) (fun hq => ?_)
      · replace h := if_yes hq h
        obtain ⟨x6, ex6⟩ : ∃ y : Int32, y = v4 + (1 : Int32) := ⟨_, rfl⟩
        replace h := olet_at ex6 h
        refine lv_iinc (v := x6) (lv' := [(4, .int x6), (0, .ref (a 6)), (1, .ref (a 3)), (2, .ref (a 5)), (3, .int v3)]) hx hb dX7_rebuild_118 hl (k := 4) rfl (by rw [ex6]; rfl) (by decide) rfl (fun ls hl => ?_)
        refine lv_goto (tgt := 51) hx hb dX7_rebuild_121 (by decide) ?_
        exact ih S3 v3 x6 h H locs ls hP hS (lv_sub hl [1, 2, 3, 4, 0] rfl)
      · replace h := if_no hq h
        refine lv_aload_n hx hb dX7_rebuild_72 rfl (lv_at hl 0 rfl) ?_
        refine gfWX_Strokes_count hc hP q_492 dX7_rebuild_73 ?_
        refine lv_sipush (v := 2000) hx hb dX7_rebuild_76 (by decide) ?_
        refine lv_icmp_ge (tgt := 118) hx hb dX7_rebuild_79 (by decide) (fun hq => ?_) (fun hq => ?_)
        · replace h := if_yes hq h
          obtain ⟨x7, ex7⟩ : ∃ y : Int32, y = v4 + (1 : Int32) := ⟨_, rfl⟩
          replace h := olet_at ex7 h
          refine lv_iinc (v := x7) (lv' := [(4, .int x7), (0, .ref (a 6)), (1, .ref (a 3)), (2, .ref (a 5)), (3, .int v3)]) hx hb dX7_rebuild_118 hl (k := 4) rfl (by rw [ex7]; rfl) (by decide) rfl (fun ls hl => ?_)
          refine lv_goto (tgt := 51) hx hb dX7_rebuild_121 (by decide) ?_
          exact ih S3 v3 x7 h H locs ls hP hS (lv_sub hl [1, 2, 3, 4, 0] rfl)
        · replace h := if_no hq h
          refine lv_aload_n hx hb dX7_rebuild_82 rfl (lv_at hl 0 rfl) ?_
          refine gfWX_Strokes_first hc hP q_91 dX7_rebuild_83 ?_
          refine lv_aload_n hx hb dX7_rebuild_86 rfl (lv_at hl 0 rfl) ?_
          refine gfWX_Strokes_count hc hP q_492 dX7_rebuild_87 ?_
          refine lv_aload_n hx hb dX7_rebuild_90 rfl (lv_at hl 0 rfl) ?_
          refine gfWX_Strokes_steps hc hP q_493 dX7_rebuild_91 ?_
          obtain ⟨h8, h⟩ := chk_at h
          refine asWX_Strokes_first hc hP hS h8 dX7_rebuild_94 (fun H locs hP hS => ?_)
          obtain ⟨S9, eS9⟩ : ∃ z, z = sa S3 20 ((gi S3 17)).toNatClampNeg (gi S3 16) := ⟨_, rfl⟩
          replace h := olet_at eS9 h
          rw [← eS9] at hP
          refine lv_aload_n hx hb dX7_rebuild_95 rfl (lv_at hl 0 rfl) ?_
          refine lv_dup hx hb dX7_rebuild_96 rfl ?_
          refine gfWX_Strokes_count hc hP q_492 dX7_rebuild_97 ?_
          refine lv_iconst (v := 1) hx hb dX7_rebuild_100 (by decide) ?_
          refine lv_iadd hx hb dX7_rebuild_101 ?_
          refine pfWX_Strokes_count hc hP hS q_492 dX7_rebuild_102 (fun H locs hP hS => ?_)
          obtain ⟨S10, eS10⟩ : ∃ z, z = si S9 17 ((gi S9 17) + (1 : Int32)) := ⟨_, rfl⟩
          replace h := olet_at eS10 h
          rw [← eS10] at hP
          refine lv_aload_n hx hb dX7_rebuild_105 rfl (lv_at hl 0 rfl) ?_
          refine lv_iload_n hx hb dX7_rebuild_106 rfl (lv_at hl 3 rfl) ?_
          refine lv_iload hx hb dX7_rebuild_107 (lv_at hl 4 rfl) ?_
          refine lv_iconst (v := 1) hx hb dX7_rebuild_109 (by decide) ?_
          obtain ⟨S11, x13, hk12, h⟩ := ob2_at h
          refine cl_Si (As := [.int v3, .int v4, .int (1 : Int32)]) (rest := [.ref (a 6)]) hc k_X7_stepOf q_501 (c_X7_stepOf hk12) hP hS rfl hl (Nat.le_of_ble_eq_true rfl) dX7_rebuild_110 (Nat.le_of_ble_eq_true rfl) (Nat.le_of_ble_eq_true rfl) rfl (fun H locs hP hS => ?_)
          refine lv_aload_n hx hb dX7_rebuild_113 rfl (lv_at hl 1 rfl) ?_
          refine lv_aload_n hx hb dX7_rebuild_114 rfl (lv_at hl 2 rfl) ?_
          obtain ⟨S14, hk15, h⟩ := ob1_at h
          refine cl_Vv (As := [.int x13, .ref (a 3), .ref (a 5)]) (rest := []) hc k_X7_draw q_504 (c_X7_draw hk15) hP hS (WX_6 a g S11) rfl rfl rfl hl (Nat.le_of_ble_eq_true rfl) dX7_rebuild_115 (Nat.le_of_ble_eq_true rfl) (Nat.le_of_ble_eq_true rfl) rfl (fun H locs hP hS => ?_)
          obtain ⟨x16, ex16⟩ : ∃ y : Int32, y = v4 + (1 : Int32) := ⟨_, rfl⟩
          replace h := olet_at ex16 h
          refine lv_iinc (v := x16) (lv' := [(4, .int x16), (0, .ref (a 6)), (1, .ref (a 3)), (2, .ref (a 5)), (3, .int v3)]) hx hb dX7_rebuild_118 hl (k := 4) rfl (by rw [ex16]; rfl) (by decide) rfl (fun ls hl => ?_)
          refine lv_goto (tgt := 51) hx hb dX7_rebuild_121 (by decide) ?_
          exact ih S14 v3 x16 h H locs ls hP hS (lv_sub hl [1, 2, 3, 4, 0] rfl)
set_option maxHeartbeats 4000000 in
set_option maxRecDepth 100000 in
theorem t_X7_rebuild_p40 {z : St} (hc : Cx p R s m args c D (tysWX g) A (WX a g) cX7_rebuild 5 RX7 3 71) (hr : Rtv p l e R s m args below meth c Q D A (WX a g) cX7_rebuild z) : ∀ (fu : Nat) (S : St) (v3 : Int32), f_X7_rebuild_p40 fu S v3 = some z → Go p l e R s m args below meth c Q D A (WX a g) 5 S 40 [(0, .ref (a 6)), (1, .ref (a 3)), (2, .ref (a 5)), (3, .int v3)] [] := by
  obtain ⟨⟨hx, hb, hml, hown, hts⟩, -, -, -, hnf, hno⟩ := id hc
  intro fu
  induction fu with
  | zero =>
    intro S v3 h
    rw [f_X7_rebuild_p40] at h
    cases h
  | succ fu ih =>
    intro S v3 h H locs ls hP hS hl
    rw [f_X7_rebuild_p40] at h
    refine lv_iload_n hx hb dX7_rebuild_40 rfl (lv_at hl 3 rfl) ?_
    refine lv_aload_n hx hb dX7_rebuild_41 rfl (lv_at hl 1 rfl) ?_
    refine gfWX_Edges_count hc hP q_494 dX7_rebuild_42 ?_
    refine lv_icmp_ge (tgt := 130) hx hb dX7_rebuild_45 (by decide) (fun hq => ?_) (fun hq => ?_)
    · replace h := if_yes hq h
      obtain rfl := Option.some.inj h
      exact hr _ _ _ _ dX7_rebuild_130 hP hS
    · replace h := if_no hq h
      refine lv_iconst (v := 0) hx hb dX7_rebuild_48 (by decide) ?_
      refine lv_istore (lv' := [(4, .int (0 : Int32)), (0, .ref (a 6)), (1, .ref (a 3)), (2, .ref (a 5)), (3, .int v3)]) hx hb dX7_rebuild_49 hl (by decide) rfl (fun ls hl => ?_)
      exact t_X7_rebuild_p51 hc hr ih FU S v3 (0 : Int32) h H locs ls hP hS (lv_sub hl [1, 2, 3, 4, 0] rfl)
set_option maxHeartbeats 4000000 in
set_option maxRecDepth 100000 in
theorem t_X7_rebuild_p12 {z : St} (hc : Cx p R s m args c D (tysWX g) A (WX a g) cX7_rebuild 5 RX7 3 71) (hr : Rtv p l e R s m args below meth c Q D A (WX a g) cX7_rebuild z) : ∀ (fu : Nat) (S : St) (v3 : Int32), f_X7_rebuild_p12 fu S v3 = some z → Go p l e R s m args below meth c Q D A (WX a g) 5 S 12 [(0, .ref (a 6)), (1, .ref (a 3)), (2, .ref (a 5)), (3, .int v3)] [] := by
  obtain ⟨⟨hx, hb, hml, hown, hts⟩, -, -, -, hnf, hno⟩ := id hc
  intro fu
  induction fu with
  | zero =>
    intro S v3 h
    rw [f_X7_rebuild_p12] at h
    cases h
  | succ fu ih =>
    intro S v3 h H locs ls hP hS hl
    rw [f_X7_rebuild_p12] at h
    refine lv_iload_n hx hb dX7_rebuild_12 rfl (lv_at hl 3 rfl) ?_
    refine lv_aload_n hx hb dX7_rebuild_13 rfl (lv_at hl 1 rfl) ?_
    refine gfWX_Edges_count hc hP q_494 dX7_rebuild_14 ?_
    refine lv_icmp_ge (tgt := 38) hx hb dX7_rebuild_17 (by decide) (fun hq => ?_) (fun hq => ?_)
    · replace h := if_yes hq h
      refine lv_iconst (v := 0) hx hb dX7_rebuild_38 (by decide) ?_
      refine lv_istore_n (lv' := [(3, .int (0 : Int32)), (0, .ref (a 6)), (1, .ref (a 3)), (2, .ref (a 5))]) hx hb dX7_rebuild_39 rfl hl (by decide) rfl (fun ls hl => ?_)
      exact t_X7_rebuild_p40 hc hr FU S (0 : Int32) h H locs ls hP hS (lv_sub hl [1, 2, 3, 0] rfl)
    · replace h := if_no hq h
      refine lv_aload_n hx hb dX7_rebuild_20 rfl (lv_at hl 0 rfl) ?_
      refine gfWX_Strokes_left hc hP q_89 dX7_rebuild_21 ?_
      refine lv_iload_n hx hb dX7_rebuild_24 rfl (lv_at hl 3 rfl) ?_
      refine lv_aload_n hx hb dX7_rebuild_25 rfl (lv_at hl 2 rfl) ?_
      refine gfWX_Pieces_visible hc hP q_495 dX7_rebuild_26 ?_
      refine lv_iload_n hx hb dX7_rebuild_29 rfl (lv_at hl 3 rfl) ?_
      obtain ⟨h1, h⟩ := chk_at h
      refine alWX_Pieces_visible hc hP h1 dX7_rebuild_30 ?_
      obtain ⟨h2, h⟩ := chk_at h
      refine asWX_Strokes_left hc hP hS h2 dX7_rebuild_31 (fun H locs hP hS => ?_)
      obtain ⟨S3, eS3⟩ : ∃ z, z = sb S 4 (v3).toNatClampNeg (gb S 3 (v3).toNatClampNeg) := ⟨_, rfl⟩
      replace h := olet_at eS3 h
      rw [← eS3] at hP
      obtain ⟨x4, ex4⟩ : ∃ y : Int32, y = v3 + (1 : Int32) := ⟨_, rfl⟩
      replace h := olet_at ex4 h
      refine lv_iinc (v := x4) (lv' := [(3, .int x4), (0, .ref (a 6)), (1, .ref (a 3)), (2, .ref (a 5))]) hx hb dX7_rebuild_32 hl (k := 3) rfl (by rw [ex4]; rfl) (by decide) rfl (fun ls hl => ?_)
      refine lv_goto (tgt := 12) hx hb dX7_rebuild_35 (by decide) ?_
      exact ih S3 x4 h H locs ls hP hS (lv_sub hl [1, 2, 3, 0] rfl)
set_option maxHeartbeats 4000000 in
set_option maxRecDepth 100000 in
theorem t_X7_rebuild {z : St} (hc : Cx p R s m args c D (tysWX g) A (WX a g) cX7_rebuild 5 RX7 3 71) (hr : Rtv p l e R s m args below meth c Q D A (WX a g) cX7_rebuild z) : ∀ (S : St), f_X7_rebuild S = some z → Go p l e R s m args below meth c Q D A (WX a g) 5 S 0 [(0, .ref (a 6)), (1, .ref (a 3)), (2, .ref (a 5))] [] := by
  obtain ⟨⟨hx, hb, hml, hown, hts⟩, -, -, -, hnf, hno⟩ := id hc
  intro S h H locs ls hP hS hl
  rw [f_X7_rebuild] at h
  replace hl : lv_has ls 5 [(0, .ref (a 6)), (1, .ref (a 3)), (2, .ref (a 5))] := hl
  refine lv_aload_n hx hb dX7_rebuild_0 rfl (lv_at hl 0 rfl) ?_
  refine lv_iconst (v := 0) hx hb dX7_rebuild_1 (by decide) ?_
  refine pfWX_Strokes_count hc hP hS q_492 dX7_rebuild_2 (fun H locs hP hS => ?_)
  obtain ⟨S1, eS1⟩ : ∃ z, z = si S 17 (0 : Int32) := ⟨_, rfl⟩
  replace h := olet_at eS1 h
  rw [← eS1] at hP
  refine lv_aload_n hx hb dX7_rebuild_5 rfl (lv_at hl 0 rfl) ?_
  refine lv_iconst (v := 0) hx hb dX7_rebuild_6 (by decide) ?_
  refine pfWX_Strokes_steps hc hP hS q_493 dX7_rebuild_7 (fun H locs hP hS => ?_)
  obtain ⟨S2, eS2⟩ : ∃ z, z = si S1 16 (0 : Int32) := ⟨_, rfl⟩
  replace h := olet_at eS2 h
  rw [← eS2] at hP
  refine lv_iconst (v := 0) hx hb dX7_rebuild_10 (by decide) ?_
  refine lv_istore_n (lv' := [(3, .int (0 : Int32)), (0, .ref (a 6)), (1, .ref (a 3)), (2, .ref (a 5))]) hx hb dX7_rebuild_11 rfl hl (by decide) rfl (fun ls hl => ?_)
  exact t_X7_rebuild_p12 hc hr FU S2 (0 : Int32) h H locs ls hP hS (lv_sub hl [1, 2, 3, 0] rfl)
abbrev rm_X7_rebuild : Room := { frames := 3, cells := 0, slots := 0, locals := 71 }
theorem c_X7_rebuild {l : Launch} {D : va_G} {a : Nat → Nat} {g : Nat → ClassId} {S : St} {z : St} (h : f_X7_rebuild S = some z) : MetV l D (tysWX g) (WX a g) E0 yX7_rebuild cX7_rebuild 5 none rm_X7_rebuild [.ref (a 6), .ref (a 3), .ref (a 5)] S z := mk_v (WX_same a g) (by decide) z (Nat.le_of_ble_eq_true rfl) (fun p e s m args below meth c A Q hc hE hr => t_X7_rebuild hc hr S h)
theorem k_X7_rebuild : CalV RX7 yX7_rebuild cX7_rebuild 5 none rm_X7_rebuild 2 := ⟨q_489, q_490, q_34, q_491, by decide +kernel, rfl, rfl⟩
set_option maxHeartbeats 4000000 in
set_option maxRecDepth 100000 in
theorem t_X7_has {z : St × Int32} (hc : Cx p R s m args c D (tysWX g) A (WX a g) cX7_has 2 RX7 0 0) (hr : Rtz p l e R s m args below meth c Q D A (WX a g) cX7_has z) : ∀ (S : St) (v1 : Int32), f_X7_has S v1 = some z → Go p l e R s m args below meth c Q D A (WX a g) 2 S 0 [(0, .ref (a 6)), (1, .int v1)] [] := by
  obtain ⟨⟨hx, hb, hml, hown, hts⟩, -, -, -, hnf, hno⟩ := id hc
  intro S v1 h H locs ls hP hS hl
  rw [f_X7_has] at h
  replace hl : lv_has ls 2 [(0, .ref (a 6)), (1, .int v1)] := hl
  refine lv_iload_n hx hb dX7_has_0 rfl (lv_at hl 1 rfl) ?_
  refine lv_if_lt (tgt := 16) hx hb dX7_has_1 (by decide) (fun hq => ?_) (fun hq => ?_)
  · replace h := if_yes hq h
    refine lv_iconst (v := 0) hx hb dX7_has_16 (by decide) ?_
    obtain rfl := Option.some.inj h
    exact hr (Or.inl rfl) _ _ _ _ dX7_has_17 hP hS
  · replace h := if_no hq h
    refine lv_iload_n hx hb dX7_has_4 rfl (lv_at hl 1 rfl) ?_
    refine lv_aload_n hx hb dX7_has_5 rfl (lv_at hl 0 rfl) ?_
    refine gfWX_Strokes_count hc hP q_492 dX7_has_6 ?_
    refine lv_icmp_ge (tgt := 16) hx hb dX7_has_9 (by decide) (fun hq => ?_) (fun hq => ?_)
    · replace h := if_yes hq h
      refine lv_iconst (v := 0) hx hb dX7_has_16 (by decide) ?_
      obtain rfl := Option.some.inj h
      exact hr (Or.inl rfl) _ _ _ _ dX7_has_17 hP hS
    · replace h := if_no hq h
      refine lv_iconst (v := 1) hx hb dX7_has_12 (by decide) ?_
      refine lv_goto (tgt := 17) hx hb dX7_has_13 (by decide) ?_
      obtain rfl := Option.some.inj h
      exact hr (Or.inr rfl) _ _ _ _ dX7_has_17 hP hS
abbrev rm_X7_has : Room := { frames := 0, cells := 0, slots := 0, locals := 0 }
theorem c_X7_has {l : Launch} {D : va_G} {a : Nat → Nat} {g : Nat → ClassId} {S : St} {v1 : Int32} {z : St × Int32} (h : f_X7_has S v1 = some z) : MetI l D (tysWX g) (WX a g) E0 yX7_has cX7_has 2 (some .boolean) rm_X7_has [.ref (a 6), .int v1] S z := mk_z (WX_same a g) (by decide) z (Nat.le_of_ble_eq_true rfl) (fun p e s m args below meth c A Q hc hE hr => t_X7_has hc hr S v1 h)
theorem k_X7_has : CalV RX7 yX7_has cX7_has 2 (some .boolean) rm_X7_has 1 := ⟨q_771, q_772, q_34, q_773, by decide +kernel, rfl, rfl⟩
set_option maxHeartbeats 4000000 in
set_option maxRecDepth 100000 in
theorem t_X7_length {z : St × Int32} (hc : Cx p R s m args c D (tysWX g) A (WX a g) cX7_length 2 RX7 0 0) (hr : Rti p l e R s m args below meth c Q D A (WX a g) cX7_length z) : ∀ (S : St) (v1 : Int32), f_X7_length S v1 = some z → Go p l e R s m args below meth c Q D A (WX a g) 2 S 0 [(0, .ref (a 6)), (1, .int v1)] [] := by
  obtain ⟨⟨hx, hb, hml, hown, hts⟩, -, -, -, hnf, hno⟩ := id hc
  intro S v1 h H locs ls hP hS hl
  rw [f_X7_length] at h
  replace hl : lv_has ls 2 [(0, .ref (a 6)), (1, .int v1)] := hl
  refine lv_iload_n hx hb dX7_length_0 rfl (lv_at hl 1 rfl) ?_
  refine lv_iconst (v := 1) hx hb dX7_length_1 (by decide) ?_
  refine lv_iadd hx hb dX7_length_2 ?_
  refine lv_aload_n hx hb dX7_length_3 rfl (lv_at hl 0 rfl) ?_
  refine gfWX_Strokes_count hc hP q_492 dX7_length_4 ?_
  refine lv_icmp_ge (tgt := 21) hx hb dX7_length_7 (by decide) (fun hq => ?_) (fun hq => ?_)
  · replace h := if_yes hq h
    refine lv_aload_n hx hb dX7_length_21 rfl (lv_at hl 0 rfl) ?_
    refine gfWX_Strokes_steps hc hP q_493 dX7_length_22 ?_
    refine lv_aload_n hx hb dX7_length_25 rfl (lv_at hl 0 rfl) ?_
    refine gfWX_Strokes_first hc hP q_91 dX7_length_26 ?_
    refine lv_iload_n hx hb dX7_length_29 rfl (lv_at hl 1 rfl) ?_
    obtain ⟨h1, h⟩ := chk_at h
    refine alWX_Strokes_first hc hP h1 dX7_length_30 ?_
    refine lv_isub hx hb dX7_length_31 ?_
    obtain rfl := Option.some.inj h
    exact hr _ _ _ _ dX7_length_32 hP hS
  · replace h := if_no hq h
    refine lv_aload_n hx hb dX7_length_10 rfl (lv_at hl 0 rfl) ?_
    refine gfWX_Strokes_first hc hP q_91 dX7_length_11 ?_
    refine lv_iload_n hx hb dX7_length_14 rfl (lv_at hl 1 rfl) ?_
    refine lv_iconst (v := 1) hx hb dX7_length_15 (by decide) ?_
    refine lv_iadd hx hb dX7_length_16 ?_
    obtain ⟨h2, h⟩ := chk_at h
    refine alWX_Strokes_first hc hP h2 dX7_length_17 ?_
    refine lv_goto (tgt := 25) hx hb dX7_length_18 (by decide) ?_
    refine lv_aload_n hx hb dX7_length_25 rfl (lv_at hl 0 rfl) ?_
    refine gfWX_Strokes_first hc hP q_91 dX7_length_26 ?_
    refine lv_iload_n hx hb dX7_length_29 rfl (lv_at hl 1 rfl) ?_
    obtain ⟨h3, h⟩ := chk_at h
    refine alWX_Strokes_first hc hP h3 dX7_length_30 ?_
    refine lv_isub hx hb dX7_length_31 ?_
    obtain rfl := Option.some.inj h
    exact hr _ _ _ _ dX7_length_32 hP hS
abbrev rm_X7_length : Room := { frames := 0, cells := 0, slots := 0, locals := 0 }
theorem c_X7_length {l : Launch} {D : va_G} {a : Nat → Nat} {g : Nat → ClassId} {S : St} {v1 : Int32} {z : St × Int32} (h : f_X7_length S v1 = some z) : MetI l D (tysWX g) (WX a g) E0 yX7_length cX7_length 2 (some .int) rm_X7_length [.ref (a 6), .int v1] S z := mk_i (WX_same a g) (by decide) z (Nat.le_of_ble_eq_true rfl) (fun p e s m args below meth c A Q hc hE hr => t_X7_length hc hr S v1 h)
theorem k_X7_length : CalV RX7 yX7_length cX7_length 2 (some .int) rm_X7_length 1 := ⟨q_775, q_776, q_34, q_777, by decide +kernel, rfl, rfl⟩
set_option maxHeartbeats 4000000 in
set_option maxRecDepth 100000 in
theorem t_X7_startPoint {z : St × Int32} (hc : Cx p R s m args c D (tysWX g) A (WX a g) cX7_startPoint 4 RX7 1 20) (hr : Rti p l e R s m args below meth c Q D A (WX a g) cX7_startPoint z) : ∀ (S : St) (v1 : Int32), f_X7_startPoint S v1 = some z → Go p l e R s m args below meth c Q D A (WX a g) 4 S 0 [(0, .ref (a 6)), (1, .int v1), (2, .ref (a 3))] [] := by
  obtain ⟨⟨hx, hb, hml, hown, hts⟩, -, -, -, hnf, hno⟩ := id hc
  intro S v1 h H locs ls hP hS hl
  rw [f_X7_startPoint] at h
  replace hl : lv_has ls 4 [(0, .ref (a 6)), (1, .int v1), (2, .ref (a 3))] := hl
  refine lv_aload_n hx hb dX7_startPoint_0 rfl (lv_at hl 0 rfl) ?_
  refine gfWX_Strokes_step hc hP q_90 dX7_startPoint_1 ?_
  refine lv_aload_n hx hb dX7_startPoint_4 rfl (lv_at hl 0 rfl) ?_
  refine gfWX_Strokes_first hc hP q_91 dX7_startPoint_5 ?_
  refine lv_iload_n hx hb dX7_startPoint_8 rfl (lv_at hl 1 rfl) ?_
  obtain ⟨h1, h⟩ := chk_at h
  refine alWX_Strokes_first hc hP h1 dX7_startPoint_9 ?_
  obtain ⟨h2, h⟩ := chk_at h
  refine alWX_Strokes_step hc hP h2 dX7_startPoint_10 ?_
  refine lv_topi (fun x3 ex3 => ?_)
  replace h := olet_at ex3 h
  refine lv_istore_n (lv' := [(3, .int x3), (0, .ref (a 6)), (1, .int v1), (2, .ref (a 3))]) hx hb dX7_startPoint_11 rfl hl (by decide) rfl (fun ls hl => ?_)
  refine lv_iload_n hx hb dX7_startPoint_12 rfl (lv_at hl 0 rfl) ?_
  obtain ⟨S4, x6, hk5, h⟩ := ob2_at h
  refine cl_Si (As := [.int x3]) (rest := []) hc k_X7_pieceOf q_512 (c_X7_pieceOf hk5) hP hS rfl hl (Nat.le_of_ble_eq_true rfl) dX7_startPoint_13 (Nat.le_of_ble_eq_true rfl) (Nat.le_of_ble_eq_true rfl) rfl (fun H locs hP hS => ?_)
  refine lv_if_ne (tgt := 31) hx hb dX7_startPoint_16 (by decide) (fun hq => ?_) (fun hq => ?_)
  · replace h := if_no hq h
    refine lv_bipush (v := -9) hx hb dX7_startPoint_31 (by decide) ?_
    obtain rfl := Option.some.inj h
    exact hr _ _ _ _ dX7_startPoint_33 hP hS
  · replace h := if_yes hq h
    refine lv_aload_n hx hb dX7_startPoint_19 rfl (lv_at hl 3 rfl) ?_
    refine gfWX_Edges_low hc hP q_519 dX7_startPoint_20 ?_
    refine lv_iload_n hx hb dX7_startPoint_23 rfl (lv_at hl 0 rfl) ?_
    obtain ⟨S7, x9, hk8, h⟩ := ob2_at h
    refine cl_Si (As := [.int x3]) (rest := [.ref (a 21)]) hc k_X7_edgeOf q_509 (c_X7_edgeOf hk8) hP hS rfl hl (Nat.le_of_ble_eq_true rfl) dX7_startPoint_24 (Nat.le_of_ble_eq_true rfl) (Nat.le_of_ble_eq_true rfl) rfl (fun H locs hP hS => ?_)
    obtain ⟨h10, h⟩ := chk_at h
    refine alWX_Edges_low hc hP h10 dX7_startPoint_27 ?_
    refine lv_goto (tgt := 33) hx hb dX7_startPoint_28 (by decide) ?_
    obtain rfl := Option.some.inj h
    exact hr _ _ _ _ dX7_startPoint_33 hP hS
abbrev rm_X7_startPoint : Room := { frames := 1, cells := 0, slots := 0, locals := 20 }
theorem c_X7_startPoint {l : Launch} {D : va_G} {a : Nat → Nat} {g : Nat → ClassId} {S : St} {v1 : Int32} {z : St × Int32} (h : f_X7_startPoint S v1 = some z) : MetI l D (tysWX g) (WX a g) E0 yX7_startPoint cX7_startPoint 4 (some .int) rm_X7_startPoint [.ref (a 6), .int v1, .ref (a 3)] S z := mk_i (WX_same a g) (by decide) z (Nat.le_of_ble_eq_true rfl) (fun p e s m args below meth c A Q hc hE hr => t_X7_startPoint hc hr S v1 h)
theorem k_X7_startPoint : CalV RX7 yX7_startPoint cX7_startPoint 4 (some .int) rm_X7_startPoint 2 := ⟨q_779, q_780, q_34, q_781, by decide +kernel, rfl, rfl⟩
set_option maxHeartbeats 4000000 in
set_option maxRecDepth 100000 in
theorem t_X7_endPoint {z : St × Int32} (hc : Cx p R s m args c D (tysWX g) A (WX a g) cX7_endPoint 4 RX7 2 44) (hr : Rti p l e R s m args below meth c Q D A (WX a g) cX7_endPoint z) : ∀ (S : St) (v1 : Int32), f_X7_endPoint S v1 = some z → Go p l e R s m args below meth c Q D A (WX a g) 4 S 0 [(0, .ref (a 6)), (1, .int v1), (2, .ref (a 3)), (3, .ref (a 5))] [] := by
  obtain ⟨⟨hx, hb, hml, hown, hts⟩, -, -, -, hnf, hno⟩ := id hc
  intro S v1 h H locs ls hP hS hl
  rw [f_X7_endPoint] at h
  replace hl : lv_has ls 4 [(0, .ref (a 6)), (1, .int v1), (2, .ref (a 3)), (3, .ref (a 5))] := hl
  refine lv_aload_n hx hb dX7_endPoint_0 rfl (lv_at hl 0 rfl) ?_
  refine gfWX_Strokes_step hc hP q_90 dX7_endPoint_1 ?_
  refine lv_aload_n hx hb dX7_endPoint_4 rfl (lv_at hl 0 rfl) ?_
  refine gfWX_Strokes_first hc hP q_91 dX7_endPoint_5 ?_
  refine lv_iload_n hx hb dX7_endPoint_8 rfl (lv_at hl 1 rfl) ?_
  obtain ⟨h1, h⟩ := chk_at h
  refine alWX_Strokes_first hc hP h1 dX7_endPoint_9 ?_
  refine lv_aload_n hx hb dX7_endPoint_10 rfl (lv_at hl 0 rfl) ?_
  refine lv_iload_n hx hb dX7_endPoint_11 rfl (lv_at hl 1 rfl) ?_
  obtain ⟨S2, x4, hk3, h⟩ := ob2_at h
  refine cl_Vi (As := [.int v1]) (rest := [.int (ga S 20 (v1).toNatClampNeg), .ref (a 32)]) hc k_X7_length q_786 (c_X7_length hk3) hP hS (WX_6 a g S) rfl rfl rfl hl (Nat.le_of_ble_eq_true rfl) dX7_endPoint_12 (Nat.le_of_ble_eq_true rfl) (Nat.le_of_ble_eq_true rfl) rfl (fun H locs hP hS => ?_)
  refine lv_iadd hx hb dX7_endPoint_15 ?_
  refine lv_iconst (v := 1) hx hb dX7_endPoint_16 (by decide) ?_
  refine lv_isub hx hb dX7_endPoint_17 ?_
  obtain ⟨h5, h⟩ := chk_at h
  refine alWX_Strokes_step hc hP h5 dX7_endPoint_18 ?_
  refine lv_aload_n hx hb dX7_endPoint_19 rfl (lv_at hl 2 rfl) ?_
  refine lv_aload_n hx hb dX7_endPoint_20 rfl (lv_at hl 3 rfl) ?_
  obtain ⟨S6, x8, hk7, h⟩ := ob2_at h
  refine cl_Si (As := [.int (ga S2 19 ((((ga S 20 (v1).toNatClampNeg) + x4) - (1 : Int32))).toNatClampNeg), .ref (a 3), .ref (a 5)]) (rest := []) hc k_X7_pointBehind q_515 (c_X7_pointBehind hk7) hP hS rfl hl (Nat.le_of_ble_eq_true rfl) dX7_endPoint_21 (Nat.le_of_ble_eq_true rfl) (Nat.le_of_ble_eq_true rfl) rfl (fun H locs hP hS => ?_)
  obtain rfl := Option.some.inj h
  exact hr _ _ _ _ dX7_endPoint_24 hP hS
abbrev rm_X7_endPoint : Room := { frames := 2, cells := 0, slots := 0, locals := 44 }
theorem c_X7_endPoint {l : Launch} {D : va_G} {a : Nat → Nat} {g : Nat → ClassId} {S : St} {v1 : Int32} {z : St × Int32} (h : f_X7_endPoint S v1 = some z) : MetI l D (tysWX g) (WX a g) E0 yX7_endPoint cX7_endPoint 4 (some .int) rm_X7_endPoint [.ref (a 6), .int v1, .ref (a 3), .ref (a 5)] S z := mk_i (WX_same a g) (by decide) z (Nat.le_of_ble_eq_true rfl) (fun p e s m args below meth c A Q hc hE hr => t_X7_endPoint hc hr S v1 h)
theorem k_X7_endPoint : CalV RX7 yX7_endPoint cX7_endPoint 4 (some .int) rm_X7_endPoint 3 := ⟨q_783, q_784, q_34, q_785, by decide +kernel, rfl, rfl⟩
end W
