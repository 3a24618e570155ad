section W
variable {p : Program} {l : Launch} {e : Env} {R : Room} {s : State} {m : MethodId} {args : Array Value} {below : List Frame} {meth : Method} {c : Code} {Q : State → Prop} {D : va_G} {A : Nat → Prop} {a : Nat → Nat} {g : Nat → ClassId}
set_option maxHeartbeats 4000000 in
set_option maxRecDepth 100000 in
theorem t_X8_within {z : SZ × Int} (hc : Cx p R s m args c D (tysWX g) A (WX a g) cX8_within 2 RX8 0 0) (hr : Rtz p l e R s m args below meth c Q D A (WX a g) cX8_within (em z.1, Int32.ofInt z.2)) : ∀ (S : SZ) (v0 : Int) (v1 : Int), f_X8_within S v0 v1 = some z → Go p l e R s m args below meth c Q D A (WX a g) 2 (em S) 0 [(0, .int (Int32.ofInt v0)), (1, .int (Int32.ofInt v1))] [] := by
  obtain ⟨⟨hx, hb, hml, hown, hts⟩, -, -, -, hnf, hno⟩ := id hc
  intro S v0 v1 h H locs ls hP hS hl
  rw [f_X8_within] at h
  replace hl : lv_has ls 2 [(0, .int (Int32.ofInt v0)), (1, .int (Int32.ofInt v1))] := hl
  refine lv_iload_n hx hb dX8_within_0 rfl (lv_at hl 0 rfl) ?_
  refine lv_iload_n hx hb dX8_within_1 rfl (lv_at hl 1 rfl) ?_
  refine z_ineg hx hb dX8_within_2 ?_
  obtain ⟨h1, h⟩ := chk_at h
  obtain ⟨h2, h⟩ := chk_at h
  refine z_icmp_lt (tgt := 15) hx hb h1 h2 dX8_within_3 (by decide) (fun hq => ?_) (fun hq => ?_)
  · replace h := if_yes hq h
    refine lv_iconst (v := Int32.ofInt (0 : Int)) hx hb dX8_within_15 (by decide) ?_
    obtain rfl := Option.some.inj h
    exact hr (bit_of (Or.inl rfl)) _ _ _ _ dX8_within_16 hP hS
  · replace h := if_no hq h
    refine lv_iload_n hx hb dX8_within_6 rfl (lv_at hl 0 rfl) ?_
    refine lv_iload_n hx hb dX8_within_7 rfl (lv_at hl 1 rfl) ?_
    obtain ⟨h3, h⟩ := chk_at h
    refine z_icmp_gt (tgt := 15) hx hb h1 h3 dX8_within_8 (by decide) (fun hq => ?_) (fun hq => ?_)
    · replace h := if_yes hq h
      refine lv_iconst (v := Int32.ofInt (0 : Int)) hx hb dX8_within_15 (by decide) ?_
      obtain rfl := Option.some.inj h
      exact hr (bit_of (Or.inl rfl)) _ _ _ _ dX8_within_16 hP hS
    · replace h := if_no hq h
      refine lv_iconst (v := Int32.ofInt (1 : Int)) hx hb dX8_within_11 (by decide) ?_
      refine lv_goto (tgt := 16) hx hb dX8_within_12 (by decide) ?_
      obtain rfl := Option.some.inj h
      exact hr (bit_of (Or.inr rfl)) _ _ _ _ dX8_within_16 hP hS
abbrev rm_X8_within : Room := { frames := 0, cells := 0, slots := 0, locals := 0 }
theorem c_X8_within {l : Launch} {D : va_G} {a : Nat → Nat} {g : Nat → ClassId} {S : SZ} {v0 : Int} {v1 : Int} {Z1 : SZ} {r1 : Int} (h : f_X8_within S v0 v1 = some (Z1, r1)) : MetI l D (tysWX g) (WX a g) E0 yX8_within cX8_within 2 (some .boolean) rm_X8_within [.int (Int32.ofInt v0), .int (Int32.ofInt v1)] (em S) (em Z1, Int32.ofInt r1) := mk_z (WX_same a g) (by decide) (em Z1, Int32.ofInt r1) (Nat.le_of_ble_eq_true rfl) (fun p e s m args below meth c A Q hc hE hr => t_X8_within (z := (Z1, r1)) hc hr S v0 v1 h)
theorem k_X8_within : CalS yX8_within cX8_within 2 (some .boolean) rm_X8_within 2 := ⟨q_131, q_2, q_132, by decide +kernel, rfl, rfl⟩
set_option maxHeartbeats 4000000 in
set_option maxRecDepth 100000 in
theorem t_X8_isPlace {z : SZ × Int} (hc : Cx p R s m args c D (tysWX g) A (WX a g) cX8_isPlace 3 RX8 1 21) (hr : Rtz p l e R s m args below meth c Q D A (WX a g) cX8_isPlace (em z.1, Int32.ofInt z.2)) : ∀ (S : SZ) (v0 : Int) (v1 : Int) (v2 : Int), f_X8_isPlace S v0 v1 v2 = some z → Go p l e R s m args below meth c Q D A (WX a g) 3 (em S) 0 [(0, .int (Int32.ofInt v0)), (1, .int (Int32.ofInt v1)), (2, .int (Int32.ofInt v2))] [] := by
  obtain ⟨⟨hx, hb, hml, hown, hts⟩, -, -, -, hnf, hno⟩ := id hc
  intro S v0 v1 v2 h H locs ls hP hS hl
  rw [f_X8_isPlace] at h
  replace hl : lv_has ls 3 [(0, .int (Int32.ofInt v0)), (1, .int (Int32.ofInt v1)), (2, .int (Int32.ofInt v2))] := hl
  refine lv_iload_n hx hb dX8_isPlace_0 rfl (lv_at hl 0 rfl) ?_
  refine lv_bipush (v := Int32.ofInt (9 : Int)) hx hb dX8_isPlace_1 (by decide) ?_
  obtain ⟨S1, x3, hk2, h⟩ := ob2_at h
  refine cl_Si (As := [.int (Int32.ofInt v0), .int (Int32.ofInt (9 : Int))]) (rest := []) hc k_X8_within q_130 (c_X8_within hk2) hP hS rfl hl (Nat.le_of_ble_eq_true rfl) dX8_isPlace_3 (Nat.le_of_ble_eq_true rfl) (Nat.le_of_ble_eq_true rfl) rfl (fun H locs hP hS => ?_)
  obtain ⟨h4, h⟩ := chk_at h
  refine z_if_eq (tgt := 31) hx hb h4 dX8_isPlace_6 (by decide) (fun hq => ?_) (fun hq => ?_)
  · replace h := if_yes hq h
    refine lv_iconst (v := Int32.ofInt (0 : Int)) hx hb dX8_isPlace_31 (by decide) ?_
    obtain rfl := Option.some.inj h
    exact hr (bit_of (Or.inl rfl)) _ _ _ _ dX8_isPlace_32 hP hS
  · replace h := if_no hq h
    refine lv_iload_n hx hb dX8_isPlace_9 rfl (lv_at hl 1 rfl) ?_
    refine lv_bipush (v := Int32.ofInt (9 : Int)) hx hb dX8_isPlace_10 (by decide) ?_
    obtain ⟨S5, x7, hk6, h⟩ := ob2_at h
    refine cl_Si (As := [.int (Int32.ofInt v1), .int (Int32.ofInt (9 : Int))]) (rest := []) hc k_X8_within q_130 (c_X8_within hk6) hP hS rfl hl (Nat.le_of_ble_eq_true rfl) dX8_isPlace_12 (Nat.le_of_ble_eq_true rfl) (Nat.le_of_ble_eq_true rfl) rfl (fun H locs hP hS => ?_)
    obtain ⟨h8, h⟩ := chk_at h
    refine z_if_eq (tgt := 31) hx hb h8 dX8_isPlace_15 (by decide) (fun hq => ?_) (fun hq => ?_)
    · replace h := if_yes hq h
      refine lv_iconst (v := Int32.ofInt (0 : Int)) hx hb dX8_isPlace_31 (by decide) ?_
      obtain rfl := Option.some.inj h
      exact hr (bit_of (Or.inl rfl)) _ _ _ _ dX8_isPlace_32 hP hS
    · replace h := if_no hq h
      refine lv_iload_n hx hb dX8_isPlace_18 rfl (lv_at hl 2 rfl) ?_
      refine lv_bipush (v := Int32.ofInt (9 : Int)) hx hb dX8_isPlace_19 (by decide) ?_
      obtain ⟨S9, x11, hk10, h⟩ := ob2_at h
      refine cl_Si (As := [.int (Int32.ofInt v2), .int (Int32.ofInt (9 : Int))]) (rest := []) hc k_X8_within q_130 (c_X8_within hk10) hP hS rfl hl (Nat.le_of_ble_eq_true rfl) dX8_isPlace_21 (Nat.le_of_ble_eq_true rfl) (Nat.le_of_ble_eq_true rfl) rfl (fun H locs hP hS => ?_)
      obtain ⟨h12, h⟩ := chk_at h
      refine z_if_eq (tgt := 31) hx hb h12 dX8_isPlace_24 (by decide) (fun hq => ?_) (fun hq => ?_)
      · replace h := if_yes hq h
        refine lv_iconst (v := Int32.ofInt (0 : Int)) hx hb dX8_isPlace_31 (by decide) ?_
        obtain rfl := Option.some.inj h
        exact hr (bit_of (Or.inl rfl)) _ _ _ _ dX8_isPlace_32 hP hS
      · replace h := if_no hq h
        refine lv_iconst (v := Int32.ofInt (1 : Int)) hx hb dX8_isPlace_27 (by decide) ?_
        refine lv_goto (tgt := 32) hx hb dX8_isPlace_28 (by decide) ?_
        obtain rfl := Option.some.inj h
        exact hr (bit_of (Or.inr rfl)) _ _ _ _ dX8_isPlace_32 hP hS
abbrev rm_X8_isPlace : Room := { frames := 1, cells := 0, slots := 0, locals := 21 }
theorem c_X8_isPlace {l : Launch} {D : va_G} {a : Nat → Nat} {g : Nat → ClassId} {S : SZ} {v0 : Int} {v1 : Int} {v2 : Int} {Z1 : SZ} {r1 : Int} (h : f_X8_isPlace S v0 v1 v2 = some (Z1, r1)) : MetI l D (tysWX g) (WX a g) E0 yX8_isPlace cX8_isPlace 3 (some .boolean) rm_X8_isPlace [.int (Int32.ofInt v0), .int (Int32.ofInt v1), .int (Int32.ofInt v2)] (em S) (em Z1, Int32.ofInt r1) := mk_z (WX_same a g) (by decide) (em Z1, Int32.ofInt r1) (Nat.le_of_ble_eq_true rfl) (fun p e s m args below meth c A Q hc hE hr => t_X8_isPlace (z := (Z1, r1)) hc hr S v0 v1 v2 h)
theorem k_X8_isPlace : CalS yX8_isPlace cX8_isPlace 3 (some .boolean) rm_X8_isPlace 3 := ⟨q_128, q_2, q_129, by decide +kernel, rfl, rfl⟩
set_option maxHeartbeats 4000000 in
set_option maxRecDepth 100000 in
theorem t_X8_forget {z : SZ} (hc : Cx p R s m args c D (tysWX g) A (WX a g) cX8_forget 1 RX8 0 0) (hr : Rtv p l e R s m args below meth c Q D A (WX a g) cX8_forget (em z)) : ∀ (S : SZ), f_X8_forget S = some z → Go p l e R s m args below meth c Q D A (WX a g) 1 (em S) 0 [(0, .ref (a 0))] [] := by
  obtain ⟨⟨hx, hb, hml, hown, hts⟩, -, -, -, hnf, hno⟩ := id hc
  intro S h H locs ls hP hS hl
  rw [f_X8_forget] at h
  replace hl : lv_has ls 1 [(0, .ref (a 0))] := hl
  refine lv_aload_n hx hb dX8_forget_0 rfl (lv_at hl 0 rfl) ?_
  refine lv_iconst (v := Int32.ofInt (0 : Int)) hx hb dX8_forget_1 (by decide) ?_
  refine pzWX_HiddenEdges_settled hc hP hS q_42 dX8_forget_2 (fun H locs hP hS => ?_)
  obtain ⟨S1, eS1⟩ : ∃ z, z = ui S 0 (0 : Int) := ⟨_, rfl⟩
  replace h := olet_at eS1 h
  rw [← eS1] at hP
  refine lv_aload_n hx hb dX8_forget_5 rfl (lv_at hl 0 rfl) ?_
  refine lv_bipush (v := Int32.ofInt (-9 : Int)) hx hb dX8_forget_6 (by decide) ?_
  refine pzWX_HiddenEdges_meetings hc hP hS q_43 dX8_forget_8 (fun H locs hP hS => ?_)
  obtain ⟨S2, eS2⟩ : ∃ z, z = ui S1 1 (-9 : Int) := ⟨_, rfl⟩
  replace h := olet_at eS2 h
  rw [← eS2] at hP
  obtain rfl := Option.some.inj h
  exact hr _ _ _ _ dX8_forget_11 hP hS
abbrev rm_X8_forget : Room := { frames := 0, cells := 0, slots := 0, locals := 0 }
theorem c_X8_forget {l : Launch} {D : va_G} {a : Nat → Nat} {g : Nat → ClassId} {S : SZ} {z : SZ} (h : f_X8_forget S = some z) : MetV l D (tysWX g) (WX a g) E0 yX8_forget cX8_forget 1 none rm_X8_forget [.ref (a 0)] (em S) (em z) := mk_v (WX_same a g) (by decide) (em z) (Nat.le_of_ble_eq_true rfl) (fun p e s m args below meth c A Q hc hE hr => t_X8_forget (z := z) hc hr S h)
theorem k_X8_forget : CalV RX8 yX8_forget cX8_forget 1 none rm_X8_forget 0 := ⟨q_139, q_140, q_2, q_141, by decide +kernel, rfl, rfl⟩
set_option maxHeartbeats 4000000 in
set_option maxRecDepth 100000 in
theorem t_X8_isSide {z : SZ × Int} (hc : Cx p R s m args c D (tysWX g) A (WX a g) cX8_isSide 2 RX8 1 21) (hr : Rtz p l e R s m args below meth c Q D A (WX a g) cX8_isSide (em z.1, Int32.ofInt z.2)) : ∀ (S : SZ) (v0 : Int) (v1 : Int), f_X8_isSide S v0 v1 = some z → Go p l e R s m args below meth c Q D A (WX a g) 2 (em S) 0 [(0, .int (Int32.ofInt v0)), (1, .int (Int32.ofInt v1))] [] := by
  obtain ⟨⟨hx, hb, hml, hown, hts⟩, -, -, -, hnf, hno⟩ := id hc
  intro S v0 v1 h H locs ls hP hS hl
  rw [f_X8_isSide] at h
  replace hl : lv_has ls 2 [(0, .int (Int32.ofInt v0)), (1, .int (Int32.ofInt v1))] := hl
  refine lv_iload_n hx hb dX8_isSide_0 rfl (lv_at hl 0 rfl) ?_
  refine lv_bipush (v := Int32.ofInt (9 : Int)) hx hb dX8_isSide_1 (by decide) ?_
  obtain ⟨S1, x3, hk2, h⟩ := ob2_at h
  refine cl_Si (As := [.int (Int32.ofInt v0), .int (Int32.ofInt (9 : Int))]) (rest := []) hc k_X8_within q_130 (c_X8_within hk2) hP hS rfl hl (Nat.le_of_ble_eq_true rfl) dX8_isSide_3 (Nat.le_of_ble_eq_true rfl) (Nat.le_of_ble_eq_true rfl) rfl (fun H locs hP hS => ?_)
  obtain ⟨h4, h⟩ := chk_at h
  refine z_if_eq (tgt := 32) hx hb h4 dX8_isSide_6 (by decide) (fun hq => ?_) (fun hq => ?_)
  · replace h := if_yes hq h
    refine lv_iconst (v := Int32.ofInt (0 : Int)) hx hb dX8_isSide_32 (by decide) ?_
    obtain rfl := Option.some.inj h
    exact hr (bit_of (Or.inl rfl)) _ _ _ _ dX8_isSide_33 hP hS
  · replace h := if_no hq h
    refine lv_iload_n hx hb dX8_isSide_9 rfl (lv_at hl 1 rfl) ?_
    refine lv_iconst (v := Int32.ofInt (1 : Int)) hx hb dX8_isSide_10 (by decide) ?_
    obtain ⟨h5, h⟩ := chk_at h
    refine z_icmp_lt (tgt := 32) hx hb h5 (by decide) dX8_isSide_11 (by decide) (fun hq => ?_) (fun hq => ?_)
    · replace h := if_yes hq h
      refine lv_iconst (v := Int32.ofInt (0 : Int)) hx hb dX8_isSide_32 (by decide) ?_
      obtain rfl := Option.some.inj h
      exact hr (bit_of (Or.inl rfl)) _ _ _ _ dX8_isSide_33 hP hS
    · replace h := if_no hq h
      refine lv_iload_n hx hb dX8_isSide_14 rfl (lv_at hl 1 rfl) ?_
      refine lv_bipush (v := Int32.ofInt (9 : Int)) hx hb dX8_isSide_15 (by decide) ?_
      refine z_icmp_gt (tgt := 32) hx hb h5 (by decide) dX8_isSide_17 (by decide) (fun hq => ?_) (fun hq => ?_)
      · replace h := if_yes hq h
        refine lv_iconst (v := Int32.ofInt (0 : Int)) hx hb dX8_isSide_32 (by decide) ?_
        obtain rfl := Option.some.inj h
        exact hr (bit_of (Or.inl rfl)) _ _ _ _ dX8_isSide_33 hP hS
      · replace h := if_no hq h
        refine lv_iload_n hx hb dX8_isSide_20 rfl (lv_at hl 0 rfl) ?_
        refine lv_iload_n hx hb dX8_isSide_21 rfl (lv_at hl 1 rfl) ?_
        refine z_iadd hx hb dX8_isSide_22 ?_
        refine lv_bipush (v := Int32.ofInt (9 : Int)) hx hb dX8_isSide_23 (by decide) ?_
        obtain ⟨h6, h⟩ := chk_at h
        refine z_icmp_gt (tgt := 32) hx hb h6 (by decide) dX8_isSide_25 (by decide) (fun hq => ?_) (fun hq => ?_)
        · replace h := if_yes hq h
          refine lv_iconst (v := Int32.ofInt (0 : Int)) hx hb dX8_isSide_32 (by decide) ?_
          obtain rfl := Option.some.inj h
          exact hr (bit_of (Or.inl rfl)) _ _ _ _ dX8_isSide_33 hP hS
        · replace h := if_no hq h
          refine lv_iconst (v := Int32.ofInt (1 : Int)) hx hb dX8_isSide_28 (by decide) ?_
          refine lv_goto (tgt := 33) hx hb dX8_isSide_29 (by decide) ?_
          obtain rfl := Option.some.inj h
          exact hr (bit_of (Or.inr rfl)) _ _ _ _ dX8_isSide_33 hP hS
abbrev rm_X8_isSide : Room := { frames := 1, cells := 0, slots := 0, locals := 21 }
theorem c_X8_isSide {l : Launch} {D : va_G} {a : Nat → Nat} {g : Nat → ClassId} {S : SZ} {v0 : Int} {v1 : Int} {Z1 : SZ} {r1 : Int} (h : f_X8_isSide S v0 v1 = some (Z1, r1)) : MetI l D (tysWX g) (WX a g) E0 yX8_isSide cX8_isSide 2 (some .boolean) rm_X8_isSide [.int (Int32.ofInt v0), .int (Int32.ofInt v1)] (em S) (em Z1, Int32.ofInt r1) := mk_z (WX_same a g) (by decide) (em Z1, Int32.ofInt r1) (Nat.le_of_ble_eq_true rfl) (fun p e s m args below meth c A Q hc hE hr => t_X8_isSide (z := (Z1, r1)) hc hr S v0 v1 h)
theorem k_X8_isSide : CalS yX8_isSide cX8_isSide 2 (some .boolean) rm_X8_isSide 2 := ⟨q_257, q_2, q_258, by decide +kernel, rfl, rfl⟩
set_option maxHeartbeats 4000000 in
set_option maxRecDepth 100000 in
theorem t_X8_bit {z : SZ × Int} (hc : Cx p R s m args c D (tysWX g) A (WX a g) cX8_bit 2 RX8 0 0) (hr : Rti p l e R s m args below meth c Q D A (WX a g) cX8_bit (em z.1, Int32.ofInt z.2)) : ∀ (S : SZ) (v0 : Int) (v1 : Int), f_X8_bit S v0 v1 = some z → Go p l e R s m args below meth c Q D A (WX a g) 2 (em S) 0 [(0, .int (Int32.ofInt v0)), (1, .int (Int32.ofInt v1))] [] := by
  obtain ⟨⟨hx, hb, hml, hown, hts⟩, -, -, -, hnf, hno⟩ := id hc
  intro S v0 v1 h H locs ls hP hS hl
  rw [f_X8_bit] at h
  replace hl : lv_has ls 2 [(0, .int (Int32.ofInt v0)), (1, .int (Int32.ofInt v1))] := hl
  refine lv_iload_n hx hb dX8_bit_0 rfl (lv_at hl 0 rfl) ?_
  refine lv_iload_n hx hb dX8_bit_1 rfl (lv_at hl 1 rfl) ?_
  refine z_ishr hx hb dX8_bit_2 ?_
  refine lv_iconst (v := Int32.ofInt (1 : Int)) hx hb dX8_bit_3 (by decide) ?_
  refine z_iand hx hb dX8_bit_4 ?_
  obtain rfl := Option.some.inj h
  exact hr _ _ _ _ dX8_bit_5 hP hS
abbrev rm_X8_bit : Room := { frames := 0, cells := 0, slots := 0, locals := 0 }
theorem c_X8_bit {l : Launch} {D : va_G} {a : Nat → Nat} {g : Nat → ClassId} {S : SZ} {v0 : Int} {v1 : Int} {Z1 : SZ} {r1 : Int} (h : f_X8_bit S v0 v1 = some (Z1, r1)) : MetI l D (tysWX g) (WX a g) E0 yX8_bit cX8_bit 2 (some .int) rm_X8_bit [.int (Int32.ofInt v0), .int (Int32.ofInt v1)] (em S) (em Z1, Int32.ofInt r1) := mk_i (WX_same a g) (by decide) (em Z1, Int32.ofInt r1) (Nat.le_of_ble_eq_true rfl) (fun p e s m args below meth c A Q hc hE hr => t_X8_bit (z := (Z1, r1)) hc hr S v0 v1 h)
theorem k_X8_bit : CalS yX8_bit cX8_bit 2 (some .int) rm_X8_bit 2 := ⟨q_260, q_2, q_261, by decide +kernel, rfl, rfl⟩
set_option maxHeartbeats 4000000 in
set_option maxRecDepth 100000 in
theorem t_X8_hasFaceOfBlock_p2 {z : SZ × Int} (hc : Cx p R s m args c D (tysWX g) A (WX a g) cX8_hasFaceOfBlock 2 RX8 3 68) (hE : EB A s) (hr : Rtz p l e R s m args below meth c Q D A (WX a g) cX8_hasFaceOfBlock (em z.1, Int32.ofInt z.2)) : ∀ (fu : Nat) (S : SZ) (v1 : Int), f_X8_hasFaceOfBlock_p2 fu S v1 = some z → Go p l e R s m args below meth c Q D A (WX a g) 2 (em S) 2 [(0, .ref (a 0)), (1, .int (Int32.ofInt v1))] [] := by
  obtain ⟨⟨hx, hb, hml, hown, hts⟩, -, -, -, hnf, hno⟩ := id hc
  obtain ⟨tb, hZ, hT⟩ := id hE
  intro fu
  induction fu with
  | zero =>
    intro S v1 h
    rw [f_X8_hasFaceOfBlock_p2] at h
    cases h
  | succ fu ih =>
    intro S v1 h H locs ls hP hS hl
    rw [f_X8_hasFaceOfBlock_p2] at h
    refine lv_iload_n hx hb dX8_hasFaceOfBlock_2 rfl (lv_at hl 1 rfl) ?_
    refine lv_iconst (v := Int32.ofInt (2 : Int)) hx hb dX8_hasFaceOfBlock_3 (by decide) ?_
    refine z_iadd hx hb dX8_hasFaceOfBlock_4 ?_
    refine va_gets hx hb hZ hS hown (hts _ q_255) (fun _ h9 => h9) dX8_hasFaceOfBlock_5 ?_
    refine va_tlen (v := Int32.ofInt (36 : Int)) hx hb hT hS (by decide) dX8_hasFaceOfBlock_8 ?_
    obtain ⟨h1, h⟩ := chk_at h
    refine z_icmp_ge (tgt := 64) hx hb h1 (by decide) dX8_hasFaceOfBlock_9 (by decide) (fun hq => ?_) (fun hq => ?_)
    · replace h := if_yes hq h
      refine lv_iconst (v := Int32.ofInt (0 : Int)) hx hb dX8_hasFaceOfBlock_64 (by decide) ?_
      obtain rfl := Option.some.inj h
      exact hr (bit_of (Or.inl rfl)) _ _ _ _ dX8_hasFaceOfBlock_65 hP hS
    · replace h := if_no hq h
      refine lv_aload_n hx hb dX8_hasFaceOfBlock_12 rfl (lv_at hl 0 rfl) ?_
      refine gfWX_HiddenEdges_mesh hc hP q_15 dX8_hasFaceOfBlock_13 ?_
      refine lv_aload_n hx hb dX8_hasFaceOfBlock_16 rfl (lv_at hl 0 rfl) ?_
      refine gfWX_HiddenEdges_corner hc hP q_41 dX8_hasFaceOfBlock_17 ?_
      refine va_gets hx hb hZ hS hown (hts _ q_255) (fun _ h9 => h9) dX8_hasFaceOfBlock_20 ?_
      refine lv_iload_n hx hb dX8_hasFaceOfBlock_23 rfl (lv_at hl 1 rfl) ?_
      obtain ⟨h2, h⟩ := chk_at h
      refine zt_blk hx hb hT hS h2 dX8_hasFaceOfBlock_24 ?_
      obtain ⟨h3, h⟩ := chk_at h
      refine azWX_HiddenEdges_corner hc hP h3 dX8_hasFaceOfBlock_25 ?_
      refine lv_aload_n hx hb dX8_hasFaceOfBlock_26 rfl (lv_at hl 0 rfl) ?_
      refine gfWX_HiddenEdges_corner hc hP q_41 dX8_hasFaceOfBlock_27 ?_
      refine va_gets hx hb hZ hS hown (hts _ q_255) (fun _ h9 => h9) dX8_hasFaceOfBlock_30 ?_
      refine lv_iload_n hx hb dX8_hasFaceOfBlock_33 rfl (lv_at hl 1 rfl) ?_
      refine lv_iconst (v := Int32.ofInt (1 : Int)) hx hb dX8_hasFaceOfBlock_34 (by decide) ?_
      refine z_iadd hx hb dX8_hasFaceOfBlock_35 ?_
      obtain ⟨h4, h⟩ := chk_at h
      refine zt_blk hx hb hT hS h4 dX8_hasFaceOfBlock_36 ?_
      obtain ⟨h5, h⟩ := chk_at h
      refine azWX_HiddenEdges_corner hc hP h5 dX8_hasFaceOfBlock_37 ?_
      refine lv_aload_n hx hb dX8_hasFaceOfBlock_38 rfl (lv_at hl 0 rfl) ?_
      refine gfWX_HiddenEdges_corner hc hP q_41 dX8_hasFaceOfBlock_39 ?_
      refine va_gets hx hb hZ hS hown (hts _ q_255) (fun _ h9 => h9) dX8_hasFaceOfBlock_42 ?_
      refine lv_iload_n hx hb dX8_hasFaceOfBlock_45 rfl (lv_at hl 1 rfl) ?_
      refine lv_iconst (v := Int32.ofInt (2 : Int)) hx hb dX8_hasFaceOfBlock_46 (by decide) ?_
      refine z_iadd hx hb dX8_hasFaceOfBlock_47 ?_
      obtain ⟨h6, h⟩ := chk_at h
      refine zt_blk hx hb hT hS h6 dX8_hasFaceOfBlock_48 ?_
      obtain ⟨h7, h⟩ := chk_at h
      refine azWX_HiddenEdges_corner hc hP h7 dX8_hasFaceOfBlock_49 ?_
      obtain ⟨S8, x10, hk9, h⟩ := ob2_at h
      refine cl_Vi (As := [.int (Int32.ofInt (za S 0 ((BLKz (v1).toNat)).toNat)), .int (Int32.ofInt (za S 0 ((BLKz ((v1 + (1 : Int))).toNat)).toNat)), .int (Int32.ofInt (za S 0 ((BLKz ((v1 + (2 : Int))).toNat)).toNat))]) (rest := []) hc k_X4_hasFaceOn q_186 (c_X4_hasFaceOn hk9) hP hS (WX_1 a g (em S)) rfl rfl rfl hl (Nat.le_of_ble_eq_true rfl) dX8_hasFaceOfBlock_50 (Nat.le_of_ble_eq_true rfl) (Nat.le_of_ble_eq_true rfl) rfl (fun H locs hP hS => ?_)
      obtain ⟨h11, h⟩ := chk_at h
      refine z_if_eq (tgt := 58) hx hb h11 dX8_hasFaceOfBlock_53 (by decide) (fun hq => ?_) (fun hq => ?_)
      · replace h := if_yes hq h
        obtain ⟨x12, ex12⟩ : ∃ y : Int, y = v1 + (3 : Int) := ⟨_, rfl⟩
        replace h := olet_at ex12 h
        refine lv_iinc (v := Int32.ofInt x12) (lv' := [(1, .int (Int32.ofInt x12)), (0, .ref (a 0))]) hx hb dX8_hasFaceOfBlock_58 hl (k := 1) rfl (by rw [ex12, Int32.ofInt_add]) (by decide) rfl (fun ls hl => ?_)
        refine lv_goto (tgt := 2) hx hb dX8_hasFaceOfBlock_61 (by decide) ?_
        exact ih S8 x12 h H locs ls hP hS (lv_sub hl [1, 0] rfl)
      · replace h := if_no hq h
        refine lv_iconst (v := Int32.ofInt (1 : Int)) hx hb dX8_hasFaceOfBlock_56 (by decide) ?_
        obtain rfl := Option.some.inj h
        exact hr (bit_of (Or.inr rfl)) _ _ _ _ dX8_hasFaceOfBlock_57 hP hS
set_option maxHeartbeats 4000000 in
set_option maxRecDepth 100000 in
theorem t_X8_hasFaceOfBlock {z : SZ × Int} (hc : Cx p R s m args c D (tysWX g) A (WX a g) cX8_hasFaceOfBlock 2 RX8 3 68) (hE : EB A s) (hr : Rtz p l e R s m args below meth c Q D A (WX a g) cX8_hasFaceOfBlock (em z.1, Int32.ofInt z.2)) : ∀ (S : SZ), f_X8_hasFaceOfBlock S = some z → Go p l e R s m args below meth c Q D A (WX a g) 2 (em S) 0 [(0, .ref (a 0))] [] := by
  obtain ⟨⟨hx, hb, hml, hown, hts⟩, -, -, -, hnf, hno⟩ := id hc
  obtain ⟨tb, hZ, hT⟩ := id hE
  intro S h H locs ls hP hS hl
  rw [f_X8_hasFaceOfBlock] at h
  replace hl : lv_has ls 2 [(0, .ref (a 0))] := hl
  refine lv_iconst (v := Int32.ofInt (0 : Int)) hx hb dX8_hasFaceOfBlock_0 (by decide) ?_
  refine lv_istore_n (lv' := [(1, .int (Int32.ofInt (0 : Int))), (0, .ref (a 0))]) hx hb dX8_hasFaceOfBlock_1 rfl hl (by decide) rfl (fun ls hl => ?_)
  exact t_X8_hasFaceOfBlock_p2 hc hE hr FU S (0 : Int) h H locs ls hP hS (lv_sub hl [1, 0] rfl)
abbrev rm_X8_hasFaceOfBlock : Room := { frames := 3, cells := 0, slots := 0, locals := 68 }
theorem c_X8_hasFaceOfBlock {l : Launch} {D : va_G} {a : Nat → Nat} {g : Nat → ClassId} {S : SZ} {Z1 : SZ} {r1 : Int} (h : f_X8_hasFaceOfBlock S = some (Z1, r1)) : MetI l D (tysWX g) (WX a g) EB yX8_hasFaceOfBlock cX8_hasFaceOfBlock 2 (some .boolean) rm_X8_hasFaceOfBlock [.ref (a 0)] (em S) (em Z1, Int32.ofInt r1) := mk_z (WX_same a g) (by decide) (em Z1, Int32.ofInt r1) (Nat.le_of_ble_eq_true rfl) (fun p e s m args below meth c A Q hc hE hr => t_X8_hasFaceOfBlock (z := (Z1, r1)) hc hE hr S h)
theorem k_X8_hasFaceOfBlock : CalV RX8 yX8_hasFaceOfBlock cX8_hasFaceOfBlock 2 (some .boolean) rm_X8_hasFaceOfBlock 0 := ⟨q_263, q_264, q_2, q_265, by decide +kernel, rfl, rfl⟩
set_option maxHeartbeats 4000000 in
set_option maxRecDepth 100000 in
theorem t_X8_settle_p88 {z : SZ} (hc : Cx p R s m args c D (tysWX g) A (WX a g) cX8_settle 2 RX8 5 136) (hr : Rtv p l e R s m args below meth c Q D A (WX a g) cX8_settle (em z)) : ∀ (S : SZ) (v1 : Int), f_X8_settle_p88 S v1 = some z → Go p l e R s m args below meth c Q D A (WX a g) 2 (em S) 88 [(0, .ref (a 0)), (1, .int (Int32.ofInt v1))] [] := by
  obtain ⟨⟨hx, hb, hml, hown, hts⟩, -, -, -, hnf, hno⟩ := id hc
  intro S v1 h H locs ls hP hS hl
  rw [f_X8_settle_p88] at h
  refine lv_iload_n hx hb dX8_settle_88 rfl (lv_at hl 1 rfl) ?_
  refine lv_iconst (v := Int32.ofInt (3 : Int)) hx hb dX8_settle_89 (by decide) ?_
  obtain ⟨h1, h⟩ := chk_at h
  refine z_icmp_lt (tgt := 121) hx hb h1 (by decide) dX8_settle_90 (by decide) (fun hq => ?_) (fun hq => ?_)
  · replace h := if_yes hq h
    obtain rfl := Option.some.inj h
    exact hr _ _ _ _ dX8_settle_121 hP hS
  · replace h := if_no hq h
    refine lv_aload_n hx hb dX8_settle_93 rfl (lv_at hl 0 rfl) ?_
    refine gzWX_HiddenEdges_settled hc hP q_42 dX8_settle_94 ?_
    refine lv_iconst (v := Int32.ofInt (3 : Int)) hx hb dX8_settle_97 (by decide) ?_
    obtain ⟨h2, h⟩ := chk_at h
    refine z_icmp_ge (tgt := 121) hx hb h2 (by decide) dX8_settle_98 (by decide) (fun hq => ?_) (fun hq => ?_)
    · replace h := if_yes hq h
      obtain rfl := Option.some.inj h
      exact hr _ _ _ _ dX8_settle_121 hP hS
    · replace h := if_no hq h
      refine lv_aload_n hx hb dX8_settle_101 rfl (lv_at hl 0 rfl) ?_
      refine gfWX_HiddenEdges_strokes hc hP q_35 dX8_settle_102 ?_
      refine lv_aload_n hx hb dX8_settle_105 rfl (lv_at hl 0 rfl) ?_
      refine gfWX_HiddenEdges_edges hc hP q_23 dX8_settle_106 ?_
      refine lv_aload_n hx hb dX8_settle_109 rfl (lv_at hl 0 rfl) ?_
      refine gfWX_HiddenEdges_pieces hc hP q_31 dX8_settle_110 ?_
      obtain ⟨S3, hk4, h⟩ := ob1_at h
      refine cl_Vv (As := [.ref (a 3), .ref (a 5)]) (rest := []) hc k_X7_rebuild q_488 (c_X7_rebuild hk4) hP hS (WX_6 a g (em S)) rfl rfl rfl hl (Nat.le_of_ble_eq_true rfl) dX8_settle_113 (Nat.le_of_ble_eq_true rfl) (Nat.le_of_ble_eq_true rfl) rfl (fun H locs hP hS => ?_)
      refine lv_aload_n hx hb dX8_settle_116 rfl (lv_at hl 0 rfl) ?_
      refine lv_iconst (v := Int32.ofInt (3 : Int)) hx hb dX8_settle_117 (by decide) ?_
      refine pzWX_HiddenEdges_settled hc hP hS q_42 dX8_settle_118 (fun H locs hP hS => ?_)
      obtain ⟨S5, eS5⟩ : ∃ z, z = ui S3 0 (3 : Int) := ⟨_, rfl⟩
      replace h := olet_at eS5 h
      rw [← eS5] at hP
      obtain rfl := Option.some.inj h
      exact hr _ _ _ _ dX8_settle_121 hP hS
set_option maxHeartbeats 4000000 in
set_option maxRecDepth 100000 in
theorem t_X8_settle_p51 {z : SZ} (hc : Cx p R s m args c D (tysWX g) A (WX a g) cX8_settle 2 RX8 5 136) (hr : Rtv p l e R s m args below meth c Q D A (WX a g) cX8_settle (em z)) : ∀ (S : SZ) (v1 : Int), f_X8_settle_p51 S v1 = some z → Go p l e R s m args below meth c Q D A (WX a g) 2 (em S) 51 [(0, .ref (a 0)), (1, .int (Int32.ofInt v1))] [] := by
  obtain ⟨⟨hx, hb, hml, hown, hts⟩, -, -, -, hnf, hno⟩ := id hc
  intro S v1 h H locs ls hP hS hl
  rw [f_X8_settle_p51] at h
  refine lv_iload_n hx hb dX8_settle_51 rfl (lv_at hl 1 rfl) ?_
  refine lv_iconst (v := Int32.ofInt (2 : Int)) hx hb dX8_settle_52 (by decide) ?_
  obtain ⟨h1, h⟩ := chk_at h
  refine z_icmp_lt (tgt := 88) hx hb h1 (by decide) dX8_settle_53 (by decide) (fun hq => ?_) (fun hq => ?_)
  · replace h := if_yes hq h
    exact t_X8_settle_p88 hc hr S v1 h H locs ls hP hS (lv_sub hl [0, 1] rfl)
  · replace h := if_no hq h
    refine lv_aload_n hx hb dX8_settle_56 rfl (lv_at hl 0 rfl) ?_
    refine gzWX_HiddenEdges_settled hc hP q_42 dX8_settle_57 ?_
    refine lv_iconst (v := Int32.ofInt (2 : Int)) hx hb dX8_settle_60 (by decide) ?_
    obtain ⟨h2, h⟩ := chk_at h
    refine z_icmp_ge (tgt := 88) hx hb h2 (by decide) dX8_settle_61 (by decide) (fun hq => ?_) (fun hq => ?_)
    · replace h := if_yes hq h
      exact t_X8_settle_p88 hc hr S v1 h H locs ls hP hS (lv_sub hl [0, 1] rfl)
    · replace h := if_no hq h
      refine lv_aload_n hx hb dX8_settle_64 rfl (lv_at hl 0 rfl) ?_
      refine gfWX_HiddenEdges_pieces hc hP q_31 dX8_settle_65 ?_
      refine lv_aload_n hx hb dX8_settle_68 rfl (lv_at hl 0 rfl) ?_
      refine gfWX_HiddenEdges_edges hc hP q_23 dX8_settle_69 ?_
      refine lv_aload_n hx hb dX8_settle_72 rfl (lv_at hl 0 rfl) ?_
      refine gfWX_HiddenEdges_cuts hc hP q_27 dX8_settle_73 ?_
      refine lv_aload_n hx hb dX8_settle_76 rfl (lv_at hl 0 rfl) ?_
      refine gfWX_HiddenEdges_sight hc hP q_19 dX8_settle_77 ?_
      obtain ⟨S3, hk4, h⟩ := ob1_at h
      refine cl_Vv (As := [.ref (a 3), .ref (a 4), .ref (a 2)]) (rest := []) hc k_X5_rebuild q_417 (c_X5_rebuild hk4) hP hS (WX_5 a g (em S)) rfl rfl rfl hl (Nat.le_of_ble_eq_true rfl) dX8_settle_80 (Nat.le_of_ble_eq_true rfl) (Nat.le_of_ble_eq_true rfl) rfl (fun H locs hP hS => ?_)
      refine lv_aload_n hx hb dX8_settle_83 rfl (lv_at hl 0 rfl) ?_
      refine lv_iconst (v := Int32.ofInt (2 : Int)) hx hb dX8_settle_84 (by decide) ?_
      refine pzWX_HiddenEdges_settled hc hP hS q_42 dX8_settle_85 (fun H locs hP hS => ?_)
      obtain ⟨S5, eS5⟩ : ∃ z, z = ui S3 0 (2 : Int) := ⟨_, rfl⟩
      replace h := olet_at eS5 h
      rw [← eS5] at hP
      exact t_X8_settle_p88 hc hr S5 v1 h H locs ls hP hS (lv_sub hl [0, 1] rfl)
set_option maxHeartbeats 4000000 in
set_option maxRecDepth 100000 in
theorem t_X8_settle {z : SZ} (hc : Cx p R s m args c D (tysWX g) A (WX a g) cX8_settle 2 RX8 5 136) (hr : Rtv p l e R s m args below meth c Q D A (WX a g) cX8_settle (em z)) : ∀ (S : SZ) (v1 : Int), f_X8_settle S v1 = some z → Go p l e R s m args below meth c Q D A (WX a g) 2 (em S) 0 [(0, .ref (a 0)), (1, .int (Int32.ofInt v1))] [] := by
  obtain ⟨⟨hx, hb, hml, hown, hts⟩, -, -, -, hnf, hno⟩ := id hc
  intro S v1 h H locs ls hP hS hl
  rw [f_X8_settle] at h
  replace hl : lv_has ls 2 [(0, .ref (a 0)), (1, .int (Int32.ofInt v1))] := hl
  refine lv_iload_n hx hb dX8_settle_0 rfl (lv_at hl 1 rfl) ?_
  refine lv_iconst (v := Int32.ofInt (1 : Int)) hx hb dX8_settle_1 (by decide) ?_
  obtain ⟨h1, h⟩ := chk_at h
  refine z_icmp_lt (tgt := 51) hx hb h1 (by decide) dX8_settle_2 (by decide) (fun hq => ?_) (fun hq => ?_)
  · replace h := if_yes hq h
    exact t_X8_settle_p51 hc hr S v1 h H locs ls hP hS (lv_sub hl [0, 1] rfl)
  · replace h := if_no hq h
    refine lv_aload_n hx hb dX8_settle_5 rfl (lv_at hl 0 rfl) ?_
    refine gzWX_HiddenEdges_settled hc hP q_42 dX8_settle_6 ?_
    refine lv_iconst (v := Int32.ofInt (1 : Int)) hx hb dX8_settle_9 (by decide) ?_
    obtain ⟨h2, h⟩ := chk_at h
    refine z_icmp_ge (tgt := 51) hx hb h2 (by decide) dX8_settle_10 (by decide) (fun hq => ?_) (fun hq => ?_)
    · replace h := if_yes hq h
      exact t_X8_settle_p51 hc hr S v1 h H locs ls hP hS (lv_sub hl [0, 1] rfl)
    · replace h := if_no hq h
      refine lv_aload_n hx hb dX8_settle_13 rfl (lv_at hl 0 rfl) ?_
      refine gfWX_HiddenEdges_sight hc hP q_19 dX8_settle_14 ?_
      refine lv_aload_n hx hb dX8_settle_17 rfl (lv_at hl 0 rfl) ?_
      refine gfWX_HiddenEdges_mesh hc hP q_15 dX8_settle_18 ?_
      obtain ⟨S3, hk4, h⟩ := ob1_at h
      refine cl_Vv (As := [.ref (a 1)]) (rest := []) hc k_X6_rebuild q_336 (c_X6_rebuild hk4) hP hS (WX_2 a g (em S)) rfl rfl rfl hl (Nat.le_of_ble_eq_true rfl) dX8_settle_21 (Nat.le_of_ble_eq_true rfl) (Nat.le_of_ble_eq_true rfl) rfl (fun H locs hP hS => ?_)
      refine lv_aload_n hx hb dX8_settle_24 rfl (lv_at hl 0 rfl) ?_
      refine gfWX_HiddenEdges_edges hc hP q_23 dX8_settle_25 ?_
      refine lv_aload_n hx hb dX8_settle_28 rfl (lv_at hl 0 rfl) ?_
      refine gfWX_HiddenEdges_mesh hc hP q_15 dX8_settle_29 ?_
      refine lv_aload_n hx hb dX8_settle_32 rfl (lv_at hl 0 rfl) ?_
      refine gfWX_HiddenEdges_sight hc hP q_19 dX8_settle_33 ?_
      obtain ⟨S5, hk6, h⟩ := ob1_at h
      refine cl_Vv (As := [.ref (a 1), .ref (a 2)]) (rest := []) hc k_X1_rebuild q_371 (c_X1_rebuild hk6) hP hS (WX_3 a g (em S3)) rfl rfl rfl hl (Nat.le_of_ble_eq_true rfl) dX8_settle_36 (Nat.le_of_ble_eq_true rfl) (Nat.le_of_ble_eq_true rfl) rfl (fun H locs hP hS => ?_)
      refine lv_aload_n hx hb dX8_settle_39 rfl (lv_at hl 0 rfl) ?_
      refine gfWX_HiddenEdges_cuts hc hP q_27 dX8_settle_40 ?_
      obtain ⟨S7, hk8, h⟩ := ob1_at h
      refine cl_Vv (As := []) (rest := []) hc k_X0_unload q_413 (c_X0_unload hk8) hP hS (WX_4 a g (em S5)) rfl rfl rfl hl (Nat.le_of_ble_eq_true rfl) dX8_settle_43 (Nat.le_of_ble_eq_true rfl) (Nat.le_of_ble_eq_true rfl) rfl (fun H locs hP hS => ?_)
      refine lv_aload_n hx hb dX8_settle_46 rfl (lv_at hl 0 rfl) ?_
      refine lv_iconst (v := Int32.ofInt (1 : Int)) hx hb dX8_settle_47 (by decide) ?_
      refine pzWX_HiddenEdges_settled hc hP hS q_42 dX8_settle_48 (fun H locs hP hS => ?_)
      obtain ⟨S9, eS9⟩ : ∃ z, z = ui S7 0 (1 : Int) := ⟨_, rfl⟩
      replace h := olet_at eS9 h
      rw [← eS9] at hP
      exact t_X8_settle_p51 hc hr S9 v1 h H locs ls hP hS (lv_sub hl [0, 1] rfl)
abbrev rm_X8_settle : Room := { frames := 5, cells := 0, slots := 0, locals := 136 }
theorem c_X8_settle {l : Launch} {D : va_G} {a : Nat → Nat} {g : Nat → ClassId} {S : SZ} {v1 : Int} {z : SZ} (h : f_X8_settle S v1 = some z) : MetV l D (tysWX g) (WX a g) E0 yX8_settle cX8_settle 2 none rm_X8_settle [.ref (a 0), .int (Int32.ofInt v1)] (em S) (em z) := mk_v (WX_same a g) (by decide) (em z) (Nat.le_of_ble_eq_true rfl) (fun p e s m args below meth c A Q hc hE hr => t_X8_settle (z := z) hc hr S v1 h)
theorem k_X8_settle : CalV RX8 yX8_settle cX8_settle 2 none rm_X8_settle 1 := ⟨q_333, q_334, q_2, q_335, by decide +kernel, rfl, rfl⟩
set_option maxHeartbeats 4000000 in
set_option maxRecDepth 100000 in
theorem t_X8_levelFor {z : SZ × Int} (hc : Cx p R s m args c D (tysWX g) A (WX a g) cX8_levelFor 1 RX8 0 0) (hr : Rti p l e R s m args below meth c Q D A (WX a g) cX8_levelFor (em z.1, Int32.ofInt z.2)) : ∀ (S : SZ) (v0 : Int), f_X8_levelFor S v0 = some z → Go p l e R s m args below meth c Q D A (WX a g) 1 (em S) 0 [(0, .int (Int32.ofInt v0))] [] := by
  obtain ⟨⟨hx, hb, hml, hown, hts⟩, -, -, -, hnf, hno⟩ := id hc
  intro S v0 h H locs ls hP hS hl
  rw [f_X8_levelFor] at h
  replace hl : lv_has ls 1 [(0, .int (Int32.ofInt v0))] := hl
  refine lv_iload_n hx hb dX8_levelFor_0 rfl (lv_at hl 0 rfl) ?_
  obtain ⟨h1, h⟩ := chk_at h
  by_cases hsw : v0 < 0 ∨ 11 < v0
  · replace h := if_yes hsw h
    refine lv_tableOut (tgt := 70) hx hb dX8_levelFor_1 (by rw [o32 h1]; exact hsw) (by decide) ?_
    refine lv_iconst (v := Int32.ofInt (1 : Int)) hx hb dX8_levelFor_70 (by decide) ?_
    obtain rfl := Option.some.inj h
    exact hr _ _ _ _ dX8_levelFor_71 hP hS
  replace h := if_no hsw h
  by_cases hs0 : v0 = 0
  · replace h := if_yes hs0 h
    refine lv_tableIn (off := 63) (tgt := 64) hx hb dX8_levelFor_1 (by rw [o32 h1]; exact fun h9 => hsw (Or.inl h9)) (by rw [o32 h1]; exact fun h9 => hsw (Or.inr h9)) (by rw [o32 h1, hs0]; rfl) (by decide) ?_
    refine lv_iconst (v := Int32.ofInt (0 : Int)) hx hb dX8_levelFor_64 (by decide) ?_
    obtain rfl := Option.some.inj h
    exact hr _ _ _ _ dX8_levelFor_65 hP hS
  replace h := if_no hs0 h
  by_cases hs1 : v0 = 1
  · replace h := if_yes hs1 h
    refine lv_tableIn (off := 63) (tgt := 64) hx hb dX8_levelFor_1 (by rw [o32 h1]; exact fun h9 => hsw (Or.inl h9)) (by rw [o32 h1]; exact fun h9 => hsw (Or.inr h9)) (by rw [o32 h1, hs1]; rfl) (by decide) ?_
    refine lv_iconst (v := Int32.ofInt (0 : Int)) hx hb dX8_levelFor_64 (by decide) ?_
    obtain rfl := Option.some.inj h
    exact hr _ _ _ _ dX8_levelFor_65 hP hS
  replace h := if_no hs1 h
  by_cases hs2 : v0 = 2
  · replace h := if_yes hs2 h
    refine lv_tableIn (off := 63) (tgt := 64) hx hb dX8_levelFor_1 (by rw [o32 h1]; exact fun h9 => hsw (Or.inl h9)) (by rw [o32 h1]; exact fun h9 => hsw (Or.inr h9)) (by rw [o32 h1, hs2]; rfl) (by decide) ?_
    refine lv_iconst (v := Int32.ofInt (0 : Int)) hx hb dX8_levelFor_64 (by decide) ?_
    obtain rfl := Option.some.inj h
    exact hr _ _ _ _ dX8_levelFor_65 hP hS
  replace h := if_no hs2 h
  by_cases hs3 : v0 = 3
  · replace h := if_yes hs3 h
    refine lv_tableIn (off := 69) (tgt := 70) hx hb dX8_levelFor_1 (by rw [o32 h1]; exact fun h9 => hsw (Or.inl h9)) (by rw [o32 h1]; exact fun h9 => hsw (Or.inr h9)) (by rw [o32 h1, hs3]; rfl) (by decide) ?_
    refine lv_iconst (v := Int32.ofInt (1 : Int)) hx hb dX8_levelFor_70 (by decide) ?_
    obtain rfl := Option.some.inj h
    exact hr _ _ _ _ dX8_levelFor_71 hP hS
  replace h := if_no hs3 h
  by_cases hs4 : v0 = 4
  · replace h := if_yes hs4 h
    refine lv_tableIn (off := 65) (tgt := 66) hx hb dX8_levelFor_1 (by rw [o32 h1]; exact fun h9 => hsw (Or.inl h9)) (by rw [o32 h1]; exact fun h9 => hsw (Or.inr h9)) (by rw [o32 h1, hs4]; rfl) (by decide) ?_
    refine lv_iconst (v := Int32.ofInt (2 : Int)) hx hb dX8_levelFor_66 (by decide) ?_
    obtain rfl := Option.some.inj h
    exact hr _ _ _ _ dX8_levelFor_67 hP hS
  replace h := if_no hs4 h
  by_cases hs5 : v0 = 5
  · replace h := if_yes hs5 h
    refine lv_tableIn (off := 65) (tgt := 66) hx hb dX8_levelFor_1 (by rw [o32 h1]; exact fun h9 => hsw (Or.inl h9)) (by rw [o32 h1]; exact fun h9 => hsw (Or.inr h9)) (by rw [o32 h1, hs5]; rfl) (by decide) ?_
    refine lv_iconst (v := Int32.ofInt (2 : Int)) hx hb dX8_levelFor_66 (by decide) ?_
    obtain rfl := Option.some.inj h
    exact hr _ _ _ _ dX8_levelFor_67 hP hS
  replace h := if_no hs5 h
  by_cases hs6 : v0 = 6
  · replace h := if_yes hs6 h
    refine lv_tableIn (off := 69) (tgt := 70) hx hb dX8_levelFor_1 (by rw [o32 h1]; exact fun h9 => hsw (Or.inl h9)) (by rw [o32 h1]; exact fun h9 => hsw (Or.inr h9)) (by rw [o32 h1, hs6]; rfl) (by decide) ?_
    refine lv_iconst (v := Int32.ofInt (1 : Int)) hx hb dX8_levelFor_70 (by decide) ?_
    obtain rfl := Option.some.inj h
    exact hr _ _ _ _ dX8_levelFor_71 hP hS
  replace h := if_no hs6 h
  by_cases hs7 : v0 = 7
  · replace h := if_yes hs7 h
    refine lv_tableIn (off := 69) (tgt := 70) hx hb dX8_levelFor_1 (by rw [o32 h1]; exact fun h9 => hsw (Or.inl h9)) (by rw [o32 h1]; exact fun h9 => hsw (Or.inr h9)) (by rw [o32 h1, hs7]; rfl) (by decide) ?_
    refine lv_iconst (v := Int32.ofInt (1 : Int)) hx hb dX8_levelFor_70 (by decide) ?_
    obtain rfl := Option.some.inj h
    exact hr _ _ _ _ dX8_levelFor_71 hP hS
  replace h := if_no hs7 h
  by_cases hs8 : v0 = 8
  · replace h := if_yes hs8 h
    refine lv_tableIn (off := 67) (tgt := 68) hx hb dX8_levelFor_1 (by rw [o32 h1]; exact fun h9 => hsw (Or.inl h9)) (by rw [o32 h1]; exact fun h9 => hsw (Or.inr h9)) (by rw [o32 h1, hs8]; rfl) (by decide) ?_
    refine lv_iconst (v := Int32.ofInt (3 : Int)) hx hb dX8_levelFor_68 (by decide) ?_
    obtain rfl := Option.some.inj h
    exact hr _ _ _ _ dX8_levelFor_69 hP hS
  replace h := if_no hs8 h
  by_cases hs9 : v0 = 9
  · replace h := if_yes hs9 h
    refine lv_tableIn (off := 69) (tgt := 70) hx hb dX8_levelFor_1 (by rw [o32 h1]; exact fun h9 => hsw (Or.inl h9)) (by rw [o32 h1]; exact fun h9 => hsw (Or.inr h9)) (by rw [o32 h1, hs9]; rfl) (by decide) ?_
    refine lv_iconst (v := Int32.ofInt (1 : Int)) hx hb dX8_levelFor_70 (by decide) ?_
    obtain rfl := Option.some.inj h
    exact hr _ _ _ _ dX8_levelFor_71 hP hS
  replace h := if_no hs9 h
  by_cases hs10 : v0 = 10
  · replace h := if_yes hs10 h
    refine lv_tableIn (off := 69) (tgt := 70) hx hb dX8_levelFor_1 (by rw [o32 h1]; exact fun h9 => hsw (Or.inl h9)) (by rw [o32 h1]; exact fun h9 => hsw (Or.inr h9)) (by rw [o32 h1, hs10]; rfl) (by decide) ?_
    refine lv_iconst (v := Int32.ofInt (1 : Int)) hx hb dX8_levelFor_70 (by decide) ?_
    obtain rfl := Option.some.inj h
    exact hr _ _ _ _ dX8_levelFor_71 hP hS
  replace h := if_no hs10 h
  by_cases hs11 : v0 = 11
  · replace h := if_yes hs11 h
    refine lv_tableIn (off := 65) (tgt := 66) hx hb dX8_levelFor_1 (by rw [o32 h1]; exact fun h9 => hsw (Or.inl h9)) (by rw [o32 h1]; exact fun h9 => hsw (Or.inr h9)) (by rw [o32 h1, hs11]; rfl) (by decide) ?_
    refine lv_iconst (v := Int32.ofInt (2 : Int)) hx hb dX8_levelFor_66 (by decide) ?_
    obtain rfl := Option.some.inj h
    exact hr _ _ _ _ dX8_levelFor_67 hP hS
  replace h := if_no hs11 h
  cases h
abbrev rm_X8_levelFor : Room := { frames := 0, cells := 0, slots := 0, locals := 0 }
theorem c_X8_levelFor {l : Launch} {D : va_G} {a : Nat → Nat} {g : Nat → ClassId} {S : SZ} {v0 : Int} {Z1 : SZ} {r1 : Int} (h : f_X8_levelFor S v0 = some (Z1, r1)) : MetI l D (tysWX g) (WX a g) E0 yX8_levelFor cX8_levelFor 1 (some .int) rm_X8_levelFor [.int (Int32.ofInt v0)] (em S) (em Z1, Int32.ofInt r1) := mk_i (WX_same a g) (by decide) (em Z1, Int32.ofInt r1) (Nat.le_of_ble_eq_true rfl) (fun p e s m args below meth c A Q hc hE hr => t_X8_levelFor (z := (Z1, r1)) hc hr S v0 h)
theorem k_X8_levelFor : CalS yX8_levelFor cX8_levelFor 1 (some .int) rm_X8_levelFor 1 := ⟨q_818, q_2, q_819, by decide +kernel, rfl, rfl⟩
set_option maxHeartbeats 4000000 in
set_option maxRecDepth 100000 in
theorem t_X8_countMeetings {z : SZ × Int} (hc : Cx p R s m args c D (tysWX g) A (WX a g) cX8_countMeetings 1 RX8 3 80) (hr : Rti p l e R s m args below meth c Q D A (WX a g) cX8_countMeetings (em z.1, Int32.ofInt z.2)) : ∀ (S : SZ), f_X8_countMeetings S = some z → Go p l e R s m args below meth c Q D A (WX a g) 1 (em S) 0 [(0, .ref (a 0))] [] := by
  obtain ⟨⟨hx, hb, hml, hown, hts⟩, -, -, -, hnf, hno⟩ := id hc
  intro S h H locs ls hP hS hl
  rw [f_X8_countMeetings] at h
  replace hl : lv_has ls 1 [(0, .ref (a 0))] := hl
  refine lv_aload_n hx hb dX8_countMeetings_0 rfl (lv_at hl 0 rfl) ?_
  refine gzWX_HiddenEdges_meetings hc hP q_43 dX8_countMeetings_1 ?_
  refine lv_bipush (v := Int32.ofInt (-9 : Int)) hx hb dX8_countMeetings_4 (by decide) ?_
  obtain ⟨h1, h⟩ := chk_at h
  refine z_icmp_ne (tgt := 28) hx hb h1 (by decide) dX8_countMeetings_6 (by decide) (fun hq => ?_) (fun hq => ?_)
  · replace h := if_no hq h
    refine lv_aload_n hx hb dX8_countMeetings_28 rfl (lv_at hl 0 rfl) ?_
    refine gzWX_HiddenEdges_meetings hc hP q_43 dX8_countMeetings_29 ?_
    obtain rfl := Option.some.inj h
    exact hr _ _ _ _ dX8_countMeetings_32 hP hS
  · replace h := if_yes hq h
    refine lv_aload_n hx hb dX8_countMeetings_9 rfl (lv_at hl 0 rfl) ?_
    refine lv_aload_n hx hb dX8_countMeetings_10 rfl (lv_at hl 0 rfl) ?_
    refine gfWX_HiddenEdges_meeting hc hP q_39 dX8_countMeetings_11 ?_
    refine lv_aload_n hx hb dX8_countMeetings_14 rfl (lv_at hl 0 rfl) ?_
    refine gfWX_HiddenEdges_edges hc hP q_23 dX8_countMeetings_15 ?_
    refine lv_aload_n hx hb dX8_countMeetings_18 rfl (lv_at hl 0 rfl) ?_
    refine gfWX_HiddenEdges_sight hc hP q_19 dX8_countMeetings_19 ?_
    obtain ⟨S2, x4, hk3, h⟩ := ob2_at h
    refine cl_Vi (As := [.ref (a 3), .ref (a 2)]) (rest := [.ref (a 0)]) hc k_X3_countAll q_832 (c_X3_countAll hk3) hP hS (WX_7 a g (em S)) rfl rfl rfl hl (Nat.le_of_ble_eq_true rfl) dX8_countMeetings_22 (Nat.le_of_ble_eq_true rfl) (Nat.le_of_ble_eq_true rfl) rfl (fun H locs hP hS => ?_)
    refine pzWX_HiddenEdges_meetings hc hP hS q_43 dX8_countMeetings_25 (fun H locs hP hS => ?_)
    obtain ⟨S5, eS5⟩ : ∃ z, z = ui S2 1 x4 := ⟨_, rfl⟩
    replace h := olet_at eS5 h
    rw [← eS5] at hP
    refine lv_aload_n hx hb dX8_countMeetings_28 rfl (lv_at hl 0 rfl) ?_
    refine gzWX_HiddenEdges_meetings hc hP q_43 dX8_countMeetings_29 ?_
    obtain rfl := Option.some.inj h
    exact hr _ _ _ _ dX8_countMeetings_32 hP hS
abbrev rm_X8_countMeetings : Room := { frames := 3, cells := 0, slots := 0, locals := 80 }
theorem c_X8_countMeetings {l : Launch} {D : va_G} {a : Nat → Nat} {g : Nat → ClassId} {S : SZ} {Z1 : SZ} {r1 : Int} (h : f_X8_countMeetings S = some (Z1, r1)) : MetI l D (tysWX g) (WX a g) E0 yX8_countMeetings cX8_countMeetings 1 (some .int) rm_X8_countMeetings [.ref (a 0)] (em S) (em Z1, Int32.ofInt r1) := mk_i (WX_same a g) (by decide) (em Z1, Int32.ofInt r1) (Nat.le_of_ble_eq_true rfl) (fun p e s m args below meth c A Q hc hE hr => t_X8_countMeetings (z := (Z1, r1)) hc hr S h)
theorem k_X8_countMeetings : CalV RX8 yX8_countMeetings cX8_countMeetings 1 (some .int) rm_X8_countMeetings 0 := ⟨q_829, q_830, q_2, q_831, by decide +kernel, rfl, rfl⟩
end W
