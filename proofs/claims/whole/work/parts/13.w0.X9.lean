section W
variable {p : Program} {l : Launch} {e : Env} {R : Room} {s : State} {m : MethodId} {args : Array Value} {below : List Frame} {meth : Method} {c : Code} {Q : State → Prop} {D : va_G} {A : Nat → Prop} {a : Nat → Nat} {g : Nat → ClassId}
set_option maxHeartbeats 4000000 in
set_option maxRecDepth 100000 in
theorem t_X9_within {z : SZ × Int} (hc : Cx p R s m args c D (tysWM g) A (WM a g) cX9_within 3 RX9 0 0) (hr : Rtz p l e R s m args below meth c Q D A (WM a g) cX9_within (em z.1, Int32.ofInt z.2)) : ∀ (S : SZ) (v0 : Int) (v1 : Int) (v2 : Int), f_X9_within S v0 v1 v2 = some z → Go p l e R s m args below meth c Q D A (WM a g) 3 (em S) 0 [(0, .int (Int32.ofInt v0)), (1, .int (Int32.ofInt v1)), (2, .int (Int32.ofInt v2))] [] := by
  obtain ⟨⟨hx, hb, hml, hown, hts⟩, -, -, -, hnf, hno⟩ := id hc
  intro S v0 v1 v2 h H locs ls hP hS hl
  rw [f_X9_within] at h
  replace hl : lv_has ls 3 [(0, .int (Int32.ofInt v0)), (1, .int (Int32.ofInt v1)), (2, .int (Int32.ofInt v2))] := hl
  refine lv_iload_n hx hb dX9_within_0 rfl (lv_at hl 0 rfl) ?_
  refine lv_iload_n hx hb dX9_within_1 rfl (lv_at hl 1 rfl) ?_
  obtain ⟨h1, h⟩ := chk_at h
  obtain ⟨h2, h⟩ := chk_at h
  refine z_icmp_lt (tgt := 14) hx hb h1 h2 dX9_within_2 (by decide) (fun hq => ?_) (fun hq => ?_)
  · replace h := if_yes hq h
    refine lv_iconst (v := Int32.ofInt (0 : Int)) hx hb dX9_within_14 (by decide) ?_
    obtain rfl := Option.some.inj h
    exact hr (bit_of (Or.inl rfl)) _ _ _ _ dX9_within_15 hP hS
  · replace h := if_no hq h
    refine lv_iload_n hx hb dX9_within_5 rfl (lv_at hl 0 rfl) ?_
    refine lv_iload_n hx hb dX9_within_6 rfl (lv_at hl 2 rfl) ?_
    obtain ⟨h3, h⟩ := chk_at h
    refine z_icmp_gt (tgt := 14) hx hb h1 h3 dX9_within_7 (by decide) (fun hq => ?_) (fun hq => ?_)
    · replace h := if_yes hq h
      refine lv_iconst (v := Int32.ofInt (0 : Int)) hx hb dX9_within_14 (by decide) ?_
      obtain rfl := Option.some.inj h
      exact hr (bit_of (Or.inl rfl)) _ _ _ _ dX9_within_15 hP hS
    · replace h := if_no hq h
      refine lv_iconst (v := Int32.ofInt (1 : Int)) hx hb dX9_within_10 (by decide) ?_
      refine lv_goto (tgt := 15) hx hb dX9_within_11 (by decide) ?_
      obtain rfl := Option.some.inj h
      exact hr (bit_of (Or.inr rfl)) _ _ _ _ dX9_within_15 hP hS
abbrev rm_X9_within : Room := { frames := 0, cells := 0, slots := 0, locals := 0 }
theorem c_X9_within {l : Launch} {D : va_G} {a : Nat → Nat} {g : Nat → ClassId} {S : SZ} {v0 : Int} {v1 : Int} {v2 : Int} {Z1 : SZ} {r1 : Int} (h : f_X9_within S v0 v1 v2 = some (Z1, r1)) : MetI l D (tysWM g) (WM a g) E0 yX9_within cX9_within 3 (some .boolean) rm_X9_within [.int (Int32.ofInt v0), .int (Int32.ofInt v1), .int (Int32.ofInt v2)] (em S) (em Z1, Int32.ofInt r1) := mk_z (WM_same a g) (by decide) (em Z1, Int32.ofInt r1) (Nat.le_of_ble_eq_true rfl) (fun p e s m args below meth c A Q hc hE hr => t_X9_within (z := (Z1, r1)) hc hr S v0 v1 v2 h)
theorem k_X9_within : CalS yX9_within cX9_within 3 (some .boolean) rm_X9_within 3 := ⟨q_159, q_5, q_160, by decide +kernel, rfl, rfl⟩
set_option maxHeartbeats 4000000 in
set_option maxRecDepth 100000 in
theorem t_X9_isPlace {z : SZ × Int} (hc : Cx p R s m args c D (tysWM g) A (WM a g) cX9_isPlace 3 RX9 1 22) (hr : Rtz p l e R s m args below meth c Q D A (WM a g) cX9_isPlace (em z.1, Int32.ofInt z.2)) : ∀ (S : SZ) (v0 : Int) (v1 : Int) (v2 : Int), f_X9_isPlace S v0 v1 v2 = some z → Go p l e R s m args below meth c Q D A (WM a g) 3 (em S) 0 [(0, .int (Int32.ofInt v0)), (1, .int (Int32.ofInt v1)), (2, .int (Int32.ofInt v2))] [] := by
  obtain ⟨⟨hx, hb, hml, hown, hts⟩, -, -, -, hnf, hno⟩ := id hc
  intro S v0 v1 v2 h H locs ls hP hS hl
  rw [f_X9_isPlace] at h
  replace hl : lv_has ls 3 [(0, .int (Int32.ofInt v0)), (1, .int (Int32.ofInt v1)), (2, .int (Int32.ofInt v2))] := hl
  refine lv_iload_n hx hb dX9_isPlace_0 rfl (lv_at hl 0 rfl) ?_
  refine lv_bipush (v := Int32.ofInt (-9 : Int)) hx hb dX9_isPlace_1 (by decide) ?_
  refine lv_bipush (v := Int32.ofInt (9 : Int)) hx hb dX9_isPlace_3 (by decide) ?_
  obtain ⟨S1, x3, hk2, h⟩ := ob2_at h
  refine cl_Si (As := [.int (Int32.ofInt v0), .int (Int32.ofInt (-9 : Int)), .int (Int32.ofInt (9 : Int))]) (rest := []) hc k_X9_within q_158 (c_X9_within hk2) hP hS rfl hl (Nat.le_of_ble_eq_true rfl) dX9_isPlace_5 (Nat.le_of_ble_eq_true rfl) (Nat.le_of_ble_eq_true rfl) rfl (fun H locs hP hS => ?_)
  obtain ⟨h4, h⟩ := chk_at h
  refine z_if_eq (tgt := 37) hx hb h4 dX9_isPlace_8 (by decide) (fun hq => ?_) (fun hq => ?_)
  · replace h := if_yes hq h
    refine lv_iconst (v := Int32.ofInt (0 : Int)) hx hb dX9_isPlace_37 (by decide) ?_
    obtain rfl := Option.some.inj h
    exact hr (bit_of (Or.inl rfl)) _ _ _ _ dX9_isPlace_38 hP hS
  · replace h := if_no hq h
    refine lv_iload_n hx hb dX9_isPlace_11 rfl (lv_at hl 1 rfl) ?_
    refine lv_bipush (v := Int32.ofInt (-9 : Int)) hx hb dX9_isPlace_12 (by decide) ?_
    refine lv_bipush (v := Int32.ofInt (9 : Int)) hx hb dX9_isPlace_14 (by decide) ?_
    obtain ⟨S5, x7, hk6, h⟩ := ob2_at h
    refine cl_Si (As := [.int (Int32.ofInt v1), .int (Int32.ofInt (-9 : Int)), .int (Int32.ofInt (9 : Int))]) (rest := []) hc k_X9_within q_158 (c_X9_within hk6) hP hS rfl hl (Nat.le_of_ble_eq_true rfl) dX9_isPlace_16 (Nat.le_of_ble_eq_true rfl) (Nat.le_of_ble_eq_true rfl) rfl (fun H locs hP hS => ?_)
    obtain ⟨h8, h⟩ := chk_at h
    refine z_if_eq (tgt := 37) hx hb h8 dX9_isPlace_19 (by decide) (fun hq => ?_) (fun hq => ?_)
    · replace h := if_yes hq h
      refine lv_iconst (v := Int32.ofInt (0 : Int)) hx hb dX9_isPlace_37 (by decide) ?_
      obtain rfl := Option.some.inj h
      exact hr (bit_of (Or.inl rfl)) _ _ _ _ dX9_isPlace_38 hP hS
    · replace h := if_no hq h
      refine lv_iload_n hx hb dX9_isPlace_22 rfl (lv_at hl 2 rfl) ?_
      refine lv_bipush (v := Int32.ofInt (-9 : Int)) hx hb dX9_isPlace_23 (by decide) ?_
      refine lv_bipush (v := Int32.ofInt (9 : Int)) hx hb dX9_isPlace_25 (by decide) ?_
      obtain ⟨S9, x11, hk10, h⟩ := ob2_at h
      refine cl_Si (As := [.int (Int32.ofInt v2), .int (Int32.ofInt (-9 : Int)), .int (Int32.ofInt (9 : Int))]) (rest := []) hc k_X9_within q_158 (c_X9_within hk10) hP hS rfl hl (Nat.le_of_ble_eq_true rfl) dX9_isPlace_27 (Nat.le_of_ble_eq_true rfl) (Nat.le_of_ble_eq_true rfl) rfl (fun H locs hP hS => ?_)
      obtain ⟨h12, h⟩ := chk_at h
      refine z_if_eq (tgt := 37) hx hb h12 dX9_isPlace_30 (by decide) (fun hq => ?_) (fun hq => ?_)
      · replace h := if_yes hq h
        refine lv_iconst (v := Int32.ofInt (0 : Int)) hx hb dX9_isPlace_37 (by decide) ?_
        obtain rfl := Option.some.inj h
        exact hr (bit_of (Or.inl rfl)) _ _ _ _ dX9_isPlace_38 hP hS
      · replace h := if_no hq h
        refine lv_iconst (v := Int32.ofInt (1 : Int)) hx hb dX9_isPlace_33 (by decide) ?_
        refine lv_goto (tgt := 38) hx hb dX9_isPlace_34 (by decide) ?_
        obtain rfl := Option.some.inj h
        exact hr (bit_of (Or.inr rfl)) _ _ _ _ dX9_isPlace_38 hP hS
abbrev rm_X9_isPlace : Room := { frames := 1, cells := 0, slots := 0, locals := 22 }
theorem c_X9_isPlace {l : Launch} {D : va_G} {a : Nat → Nat} {g : Nat → ClassId} {S : SZ} {v0 : Int} {v1 : Int} {v2 : Int} {Z1 : SZ} {r1 : Int} (h : f_X9_isPlace S v0 v1 v2 = some (Z1, r1)) : MetI l D (tysWM g) (WM a g) E0 yX9_isPlace cX9_isPlace 3 (some .boolean) rm_X9_isPlace [.int (Int32.ofInt v0), .int (Int32.ofInt v1), .int (Int32.ofInt v2)] (em S) (em Z1, Int32.ofInt r1) := mk_z (WM_same a g) (by decide) (em Z1, Int32.ofInt r1) (Nat.le_of_ble_eq_true rfl) (fun p e s m args below meth c A Q hc hE hr => t_X9_isPlace (z := (Z1, r1)) hc hr S v0 v1 v2 h)
theorem k_X9_isPlace : CalS yX9_isPlace cX9_isPlace 3 (some .boolean) rm_X9_isPlace 3 := ⟨q_156, q_5, q_157, by decide +kernel, rfl, rfl⟩
set_option maxHeartbeats 4000000 in
set_option maxRecDepth 100000 in
theorem t_X9_pointAt_p3 {z : SZ × Int} (hc : Cx p R s m args c D (tysWM g) A (WM a g) cX9_pointAt 5 RX9 0 0) (hr : Rti p l e R s m args below meth c Q D A (WM a g) cX9_pointAt (em z.1, Int32.ofInt z.2)) : ∀ (fu : Nat) (S : SZ) (v1 : Int) (v2 : Int) (v3 : Int) (v4 : Int), f_X9_pointAt_p3 fu S v1 v2 v3 v4 = some z → Go p l e R s m args below meth c Q D A (WM a g) 5 (em S) 3 [(0, .ref (a 0)), (1, .int (Int32.ofInt v1)), (2, .int (Int32.ofInt v2)), (3, .int (Int32.ofInt v3)), (4, .int (Int32.ofInt v4))] [] := by
  obtain ⟨⟨hx, hb, hml, hown, hts⟩, -, -, -, hnf, hno⟩ := id hc
  intro fu
  induction fu with
  | zero =>
    intro S v1 v2 v3 v4 h
    rw [f_X9_pointAt_p3] at h
    cases h
  | succ fu ih =>
    intro S v1 v2 v3 v4 h H locs ls hP hS hl
    rw [f_X9_pointAt_p3] at h
    refine lv_iload hx hb dX9_pointAt_3 (lv_at hl 4 rfl) ?_
    refine lv_aload_n hx hb dX9_pointAt_5 rfl (lv_at hl 0 rfl) ?_
    refine gzWM_HiddenEdgesModel_points hc hP q_154 dX9_pointAt_6 ?_
    obtain ⟨h1, h⟩ := chk_at h
    obtain ⟨h2, h⟩ := chk_at h
    refine z_icmp_ge (tgt := 54) hx hb h1 h2 dX9_pointAt_9 (by decide) (fun hq => ?_) (fun hq => ?_)
    · replace h := if_yes hq h
      refine lv_bipush (v := Int32.ofInt (-9 : Int)) hx hb dX9_pointAt_54 (by decide) ?_
      obtain rfl := Option.some.inj h
      exact hr _ _ _ _ dX9_pointAt_56 hP hS
    · replace h := if_no hq h
      refine lv_aload_n hx hb dX9_pointAt_12 rfl (lv_at hl 0 rfl) ?_
      refine gfWM_HiddenEdgesModel_xOf hc hP q_99 dX9_pointAt_13 ?_
      refine lv_iload hx hb dX9_pointAt_16 (lv_at hl 4 rfl) ?_
      obtain ⟨h3, h⟩ := chk_at h
      refine azWM_HiddenEdgesModel_xOf hc hP h3 dX9_pointAt_18 ?_
      refine lv_iload_n hx hb dX9_pointAt_19 rfl (lv_at hl 1 rfl) ?_
      obtain ⟨h4, h⟩ := chk_at h
      obtain ⟨h5, h⟩ := chk_at h
      refine z_icmp_ne (tgt := 48) hx hb h4 h5 dX9_pointAt_20 (by decide) (fun hq => ?_) (fun hq => ?_)
      · replace h := if_no hq h
        obtain ⟨x6, ex6⟩ : ∃ y : Int, y = v4 + (1 : Int) := ⟨_, rfl⟩
        replace h := olet_at ex6 h
        refine lv_iinc (v := Int32.ofInt x6) (lv' := [(4, .int (Int32.ofInt x6)), (0, .ref (a 0)), (1, .int (Int32.ofInt v1)), (2, .int (Int32.ofInt v2)), (3, .int (Int32.ofInt v3))]) hx hb dX9_pointAt_48 hl (k := 4) rfl (by rw [ex6, Int32.ofInt_add]) (by decide) rfl (fun ls hl => ?_)
        refine lv_goto (tgt := 3) hx hb dX9_pointAt_51 (by decide) ?_
        exact ih S v1 v2 v3 x6 h H locs ls hP hS (lv_sub hl [1, 2, 3, 4, 0] rfl)
      · replace h := if_yes hq h
        refine lv_aload_n hx hb dX9_pointAt_23 rfl (lv_at hl 0 rfl) ?_
        refine gfWM_HiddenEdgesModel_yOf hc hP q_100 dX9_pointAt_24 ?_
        refine lv_iload hx hb dX9_pointAt_27 (lv_at hl 4 rfl) ?_
        refine azWM_HiddenEdgesModel_yOf hc hP h3 dX9_pointAt_29 ?_
        refine lv_iload_n hx hb dX9_pointAt_30 rfl (lv_at hl 2 rfl) ?_
        obtain ⟨h7, h⟩ := chk_at h
        obtain ⟨h8, h⟩ := chk_at h
        refine z_icmp_ne (tgt := 48) hx hb h7 h8 dX9_pointAt_31 (by decide) (fun hq => ?_) (fun hq => ?_)
        · replace h := if_no hq h
          obtain ⟨x9, ex9⟩ : ∃ y : Int, y = v4 + (1 : Int) := ⟨_, rfl⟩
          replace h := olet_at ex9 h
          refine lv_iinc (v := Int32.ofInt x9) (lv' := [(4, .int (Int32.ofInt x9)), (0, .ref (a 0)), (1, .int (Int32.ofInt v1)), (2, .int (Int32.ofInt v2)), (3, .int (Int32.ofInt v3))]) hx hb dX9_pointAt_48 hl (k := 4) rfl (by rw [ex9, Int32.ofInt_add]) (by decide) rfl (fun ls hl => ?_)
          refine lv_goto (tgt := 3) hx hb dX9_pointAt_51 (by decide) ?_
          exact ih S v1 v2 v3 x9 h H locs ls hP hS (lv_sub hl [1, 2, 3, 4, 0] rfl)
        · replace h := if_yes hq h
          refine lv_aload_n hx hb dX9_pointAt_34 rfl (lv_at hl 0 rfl) ?_
          refine gfWM_HiddenEdgesModel_zOf hc hP q_101 dX9_pointAt_35 ?_
          refine lv_iload hx hb dX9_pointAt_38 (lv_at hl 4 rfl) ?_
          refine azWM_HiddenEdgesModel_zOf hc hP h3 dX9_pointAt_40 ?_
          refine lv_iload_n hx hb dX9_pointAt_41 rfl (lv_at hl 3 rfl) ?_
          obtain ⟨h10, h⟩ := chk_at h
          obtain ⟨h11, h⟩ := chk_at h
          refine z_icmp_ne (tgt := 48) hx hb h10 h11 dX9_pointAt_42 (by decide) (fun hq => ?_) (fun hq => ?_)
          · replace h := if_no hq h
            obtain ⟨x12, ex12⟩ : ∃ y : Int, y = v4 + (1 : Int) := ⟨_, rfl⟩
            replace h := olet_at ex12 h
            refine lv_iinc (v := Int32.ofInt x12) (lv' := [(4, .int (Int32.ofInt x12)), (0, .ref (a 0)), (1, .int (Int32.ofInt v1)), (2, .int (Int32.ofInt v2)), (3, .int (Int32.ofInt v3))]) hx hb dX9_pointAt_48 hl (k := 4) rfl (by rw [ex12, Int32.ofInt_add]) (by decide) rfl (fun ls hl => ?_)
            refine lv_goto (tgt := 3) hx hb dX9_pointAt_51 (by decide) ?_
            exact ih S v1 v2 v3 x12 h H locs ls hP hS (lv_sub hl [1, 2, 3, 4, 0] rfl)
          · replace h := if_yes hq h
            refine lv_iload hx hb dX9_pointAt_45 (lv_at hl 4 rfl) ?_
            obtain rfl := Option.some.inj h
            exact hr _ _ _ _ dX9_pointAt_47 hP hS
set_option maxHeartbeats 4000000 in
set_option maxRecDepth 100000 in
theorem t_X9_pointAt {z : SZ × Int} (hc : Cx p R s m args c D (tysWM g) A (WM a g) cX9_pointAt 5 RX9 0 0) (hr : Rti p l e R s m args below meth c Q D A (WM a g) cX9_pointAt (em z.1, Int32.ofInt z.2)) : ∀ (S : SZ) (v1 : Int) (v2 : Int) (v3 : Int), f_X9_pointAt S v1 v2 v3 = some z → Go p l e R s m args below meth c Q D A (WM a g) 5 (em S) 0 [(0, .ref (a 0)), (1, .int (Int32.ofInt v1)), (2, .int (Int32.ofInt v2)), (3, .int (Int32.ofInt v3))] [] := by
  obtain ⟨⟨hx, hb, hml, hown, hts⟩, -, -, -, hnf, hno⟩ := id hc
  intro S v1 v2 v3 h H locs ls hP hS hl
  rw [f_X9_pointAt] at h
  replace hl : lv_has ls 5 [(0, .ref (a 0)), (1, .int (Int32.ofInt v1)), (2, .int (Int32.ofInt v2)), (3, .int (Int32.ofInt v3))] := hl
  refine lv_iconst (v := Int32.ofInt (0 : Int)) hx hb dX9_pointAt_0 (by decide) ?_
  refine lv_istore (lv' := [(4, .int (Int32.ofInt (0 : Int))), (0, .ref (a 0)), (1, .int (Int32.ofInt v1)), (2, .int (Int32.ofInt v2)), (3, .int (Int32.ofInt v3))]) hx hb dX9_pointAt_1 hl (by decide) rfl (fun ls hl => ?_)
  exact t_X9_pointAt_p3 hc hr FU S v1 v2 v3 (0 : Int) h H locs ls hP hS (lv_sub hl [1, 2, 3, 4, 0] rfl)
abbrev rm_X9_pointAt : Room := { frames := 0, cells := 0, slots := 0, locals := 0 }
theorem c_X9_pointAt {l : Launch} {D : va_G} {a : Nat → Nat} {g : Nat → ClassId} {S : SZ} {v1 : Int} {v2 : Int} {v3 : Int} {Z1 : SZ} {r1 : Int} (h : f_X9_pointAt S v1 v2 v3 = some (Z1, r1)) : MetI l D (tysWM g) (WM a g) E0 yX9_pointAt cX9_pointAt 5 (some .int) rm_X9_pointAt [.ref (a 0), .int (Int32.ofInt v1), .int (Int32.ofInt v2), .int (Int32.ofInt v3)] (em S) (em Z1, Int32.ofInt r1) := mk_i (WM_same a g) (by decide) (em Z1, Int32.ofInt r1) (Nat.le_of_ble_eq_true rfl) (fun p e s m args below meth c A Q hc hE hr => t_X9_pointAt (z := (Z1, r1)) hc hr S v1 v2 v3 h)
theorem k_X9_pointAt : CalV RX9 yX9_pointAt cX9_pointAt 5 (some .int) rm_X9_pointAt 3 := ⟨q_162, q_163, q_5, q_164, by decide +kernel, rfl, rfl⟩
set_option maxHeartbeats 4000000 in
set_option maxRecDepth 100000 in
theorem t_X9_comes {z : SZ} (hc : Cx p R s m args c D (tysWM g) A (WM a g) cX9_comes 4 RX9 0 0) (hr : Rtv p l e R s m args below meth c Q D A (WM a g) cX9_comes (em z)) : ∀ (S : SZ) (v1 : Int) (v2 : Int) (v3 : Int), f_X9_comes S v1 v2 v3 = some z → Go p l e R s m args below meth c Q D A (WM a g) 4 (em S) 0 [(0, .ref (a 0)), (1, .int (Int32.ofInt v1)), (2, .int (Int32.ofInt v2)), (3, .int (Int32.ofInt v3))] [] := by
  obtain ⟨⟨hx, hb, hml, hown, hts⟩, -, -, -, hnf, hno⟩ := id hc
  intro S v1 v2 v3 h H locs ls hP hS hl
  rw [f_X9_comes] at h
  replace hl : lv_has ls 4 [(0, .ref (a 0)), (1, .int (Int32.ofInt v1)), (2, .int (Int32.ofInt v2)), (3, .int (Int32.ofInt v3))] := hl
  refine lv_aload_n hx hb dX9_comes_0 rfl (lv_at hl 0 rfl) ?_
  refine gfWM_HiddenEdgesModel_xOf hc hP q_99 dX9_comes_1 ?_
  refine lv_aload_n hx hb dX9_comes_4 rfl (lv_at hl 0 rfl) ?_
  refine gzWM_HiddenEdgesModel_points hc hP q_154 dX9_comes_5 ?_
  refine lv_iload_n hx hb dX9_comes_8 rfl (lv_at hl 1 rfl) ?_
  obtain ⟨h1, h⟩ := chk_at h
  refine szWM_HiddenEdgesModel_xOf hc hP hS h1 dX9_comes_9 (fun H locs hP hS => ?_)
  obtain ⟨S2, eS2⟩ : ∃ z, z = ua S 0 ((zi S 0)).toNat v1 := ⟨_, rfl⟩
  replace h := olet_at eS2 h
  rw [← eS2] at hP
  refine lv_aload_n hx hb dX9_comes_10 rfl (lv_at hl 0 rfl) ?_
  refine gfWM_HiddenEdgesModel_yOf hc hP q_100 dX9_comes_11 ?_
  refine lv_aload_n hx hb dX9_comes_14 rfl (lv_at hl 0 rfl) ?_
  refine gzWM_HiddenEdgesModel_points hc hP q_154 dX9_comes_15 ?_
  refine lv_iload_n hx hb dX9_comes_18 rfl (lv_at hl 2 rfl) ?_
  obtain ⟨h3, h⟩ := chk_at h
  refine szWM_HiddenEdgesModel_yOf hc hP hS h3 dX9_comes_19 (fun H locs hP hS => ?_)
  obtain ⟨S4, eS4⟩ : ∃ z, z = ua S2 1 ((zi S2 0)).toNat v2 := ⟨_, rfl⟩
  replace h := olet_at eS4 h
  rw [← eS4] at hP
  refine lv_aload_n hx hb dX9_comes_20 rfl (lv_at hl 0 rfl) ?_
  refine gfWM_HiddenEdgesModel_zOf hc hP q_101 dX9_comes_21 ?_
  refine lv_aload_n hx hb dX9_comes_24 rfl (lv_at hl 0 rfl) ?_
  refine gzWM_HiddenEdgesModel_points hc hP q_154 dX9_comes_25 ?_
  refine lv_iload_n hx hb dX9_comes_28 rfl (lv_at hl 3 rfl) ?_
  obtain ⟨h5, h⟩ := chk_at h
  refine szWM_HiddenEdgesModel_zOf hc hP hS h5 dX9_comes_29 (fun H locs hP hS => ?_)
  obtain ⟨S6, eS6⟩ : ∃ z, z = ua S4 2 ((zi S4 0)).toNat v3 := ⟨_, rfl⟩
  replace h := olet_at eS6 h
  rw [← eS6] at hP
  refine lv_aload_n hx hb dX9_comes_30 rfl (lv_at hl 0 rfl) ?_
  refine lv_dup hx hb dX9_comes_31 rfl ?_
  refine gzWM_HiddenEdgesModel_points hc hP q_154 dX9_comes_32 ?_
  refine lv_iconst (v := Int32.ofInt (1 : Int)) hx hb dX9_comes_35 (by decide) ?_
  refine z_iadd hx hb dX9_comes_36 ?_
  refine pzWM_HiddenEdgesModel_points hc hP hS q_154 dX9_comes_37 (fun H locs hP hS => ?_)
  obtain ⟨S7, eS7⟩ : ∃ z, z = ui S6 0 ((zi S6 0) + (1 : Int)) := ⟨_, rfl⟩
  replace h := olet_at eS7 h
  rw [← eS7] at hP
  refine lv_aload_n hx hb dX9_comes_40 rfl (lv_at hl 0 rfl) ?_
  refine lv_iconst (v := Int32.ofInt (0 : Int)) hx hb dX9_comes_41 (by decide) ?_
  refine pzWM_HiddenEdgesModel_isFound hc hP hS (Or.inl rfl) q_169 dX9_comes_42 (fun H locs hP hS => ?_)
  obtain ⟨S8, eS8⟩ : ∃ z, z = ui S7 6 (0 : Int) := ⟨_, rfl⟩
  replace h := olet_at eS8 h
  rw [← eS8] at hP
  obtain rfl := Option.some.inj h
  exact hr _ _ _ _ dX9_comes_45 hP hS
abbrev rm_X9_comes : Room := { frames := 0, cells := 0, slots := 0, locals := 0 }
theorem c_X9_comes {l : Launch} {D : va_G} {a : Nat → Nat} {g : Nat → ClassId} {S : SZ} {v1 : Int} {v2 : Int} {v3 : Int} {z : SZ} (h : f_X9_comes S v1 v2 v3 = some z) : MetV l D (tysWM g) (WM a g) E0 yX9_comes cX9_comes 4 none rm_X9_comes [.ref (a 0), .int (Int32.ofInt v1), .int (Int32.ofInt v2), .int (Int32.ofInt v3)] (em S) (em z) := mk_v (WM_same a g) (by decide) (em z) (Nat.le_of_ble_eq_true rfl) (fun p e s m args below meth c A Q hc hE hr => t_X9_comes (z := z) hc hr S v1 v2 v3 h)
theorem k_X9_comes : CalV RX9 yX9_comes cX9_comes 4 none rm_X9_comes 3 := ⟨q_166, q_167, q_5, q_168, by decide +kernel, rfl, rfl⟩
set_option maxHeartbeats 4000000 in
set_option maxRecDepth 100000 in
theorem t_X9_point {z : SZ × Int} (hc : Cx p R s m args c D (tysWM g) A (WM a g) cX9_point 4 RX9 2 44) (hr : Rti p l e R s m args below meth c Q D A (WM a g) cX9_point (em z.1, Int32.ofInt z.2)) : ∀ (S : SZ) (v1 : Int) (v2 : Int) (v3 : Int), f_X9_point S v1 v2 v3 = some z → Go p l e R s m args below meth c Q D A (WM a g) 4 (em S) 0 [(0, .ref (a 0)), (1, .int (Int32.ofInt v1)), (2, .int (Int32.ofInt v2)), (3, .int (Int32.ofInt v3))] [] := by
  obtain ⟨⟨hx, hb, hml, hown, hts⟩, -, -, -, hnf, hno⟩ := id hc
  intro S v1 v2 v3 h H locs ls hP hS hl
  rw [f_X9_point] at h
  replace hl : lv_has ls 4 [(0, .ref (a 0)), (1, .int (Int32.ofInt v1)), (2, .int (Int32.ofInt v2)), (3, .int (Int32.ofInt v3))] := hl
  refine lv_iload_n hx hb dX9_point_0 rfl (lv_at hl 1 rfl) ?_
  refine lv_iload_n hx hb dX9_point_1 rfl (lv_at hl 2 rfl) ?_
  refine lv_iload_n hx hb dX9_point_2 rfl (lv_at hl 3 rfl) ?_
  obtain ⟨S1, x3, hk2, h⟩ := ob2_at h
  refine cl_Si (As := [.int (Int32.ofInt v1), .int (Int32.ofInt v2), .int (Int32.ofInt v3)]) (rest := []) hc k_X9_isPlace q_155 (c_X9_isPlace hk2) hP hS rfl hl (Nat.le_of_ble_eq_true rfl) dX9_point_3 (Nat.le_of_ble_eq_true rfl) (Nat.le_of_ble_eq_true rfl) rfl (fun H locs hP hS => ?_)
  obtain ⟨h4, h⟩ := chk_at h
  refine z_if_ne (tgt := 12) hx hb h4 dX9_point_6 (by decide) (fun hq => ?_) (fun hq => ?_)
  · replace h := if_no hq h
    refine lv_aload_n hx hb dX9_point_12 rfl (lv_at hl 0 rfl) ?_
    refine lv_iload_n hx hb dX9_point_13 rfl (lv_at hl 1 rfl) ?_
    refine lv_iload_n hx hb dX9_point_14 rfl (lv_at hl 2 rfl) ?_
    refine lv_iload_n hx hb dX9_point_15 rfl (lv_at hl 3 rfl) ?_
    obtain ⟨S5, x7, hk6, h⟩ := ob2_at h
    refine cl_Vi (As := [.int (Int32.ofInt v1), .int (Int32.ofInt v2), .int (Int32.ofInt v3)]) (rest := []) hc k_X9_pointAt q_161 (c_X9_pointAt hk6) hP hS (WM_0 a g (em S1)) rfl rfl rfl hl (Nat.le_of_ble_eq_true rfl) dX9_point_16 (Nat.le_of_ble_eq_true rfl) (Nat.le_of_ble_eq_true rfl) rfl (fun H locs hP hS => ?_)
    refine lv_bipush (v := Int32.ofInt (-9 : Int)) hx hb dX9_point_19 (by decide) ?_
    obtain ⟨h8, h⟩ := chk_at h
    refine z_icmp_eq (tgt := 27) hx hb h8 (by decide) dX9_point_21 (by decide) (fun hq => ?_) (fun hq => ?_)
    · replace h := if_yes hq h
      refine lv_aload_n hx hb dX9_point_27 rfl (lv_at hl 0 rfl) ?_
      refine gzWM_HiddenEdgesModel_points hc hP q_154 dX9_point_28 ?_
      refine lv_bipush (v := Int32.ofInt (16 : Int)) hx hb dX9_point_31 (by decide) ?_
      obtain ⟨h9, h⟩ := chk_at h
      refine z_icmp_ne (tgt := 39) hx hb h9 (by decide) dX9_point_33 (by decide) (fun hq => ?_) (fun hq => ?_)
      · replace h := if_no hq h
        refine lv_aload_n hx hb dX9_point_39 rfl (lv_at hl 0 rfl) ?_
        refine lv_iload_n hx hb dX9_point_40 rfl (lv_at hl 1 rfl) ?_
        refine lv_iload_n hx hb dX9_point_41 rfl (lv_at hl 2 rfl) ?_
        refine lv_iload_n hx hb dX9_point_42 rfl (lv_at hl 3 rfl) ?_
        obtain ⟨S10, hk11, h⟩ := ob1_at h
        refine cl_Vv (As := [.int (Int32.ofInt v1), .int (Int32.ofInt v2), .int (Int32.ofInt v3)]) (rest := []) hc k_X9_comes q_165 (c_X9_comes hk11) hP hS (WM_0 a g (em S5)) rfl rfl rfl hl (Nat.le_of_ble_eq_true rfl) dX9_point_43 (Nat.le_of_ble_eq_true rfl) (Nat.le_of_ble_eq_true rfl) rfl (fun H locs hP hS => ?_)
        refine lv_aload_n hx hb dX9_point_46 rfl (lv_at hl 0 rfl) ?_
        refine gzWM_HiddenEdgesModel_points hc hP q_154 dX9_point_47 ?_
        refine lv_iconst (v := Int32.ofInt (1 : Int)) hx hb dX9_point_50 (by decide) ?_
        refine z_isub hx hb dX9_point_51 ?_
        obtain rfl := Option.some.inj h
        exact hr _ _ _ _ dX9_point_52 hP hS
      · replace h := if_yes hq h
        refine lv_bipush (v := Int32.ofInt (-4 : Int)) hx hb dX9_point_36 (by decide) ?_
        obtain rfl := Option.some.inj h
        exact hr _ _ _ _ dX9_point_38 hP hS
    · replace h := if_no hq h
      refine lv_bipush (v := Int32.ofInt (-3 : Int)) hx hb dX9_point_24 (by decide) ?_
      obtain rfl := Option.some.inj h
      exact hr _ _ _ _ dX9_point_26 hP hS
  · replace h := if_yes hq h
    refine lv_bipush (v := Int32.ofInt (-2 : Int)) hx hb dX9_point_9 (by decide) ?_
    obtain rfl := Option.some.inj h
    exact hr _ _ _ _ dX9_point_11 hP hS
abbrev rm_X9_point : Room := { frames := 2, cells := 0, slots := 0, locals := 44 }
theorem c_X9_point {l : Launch} {D : va_G} {a : Nat → Nat} {g : Nat → ClassId} {S : SZ} {v1 : Int} {v2 : Int} {v3 : Int} {Z1 : SZ} {r1 : Int} (h : f_X9_point S v1 v2 v3 = some (Z1, r1)) : MetI l D (tysWM g) (WM a g) E0 yX9_point cX9_point 4 (some .int) rm_X9_point [.ref (a 0), .int (Int32.ofInt v1), .int (Int32.ofInt v2), .int (Int32.ofInt v3)] (em S) (em Z1, Int32.ofInt r1) := mk_i (WM_same a g) (by decide) (em Z1, Int32.ofInt r1) (Nat.le_of_ble_eq_true rfl) (fun p e s m args below meth c A Q hc hE hr => t_X9_point (z := (Z1, r1)) hc hr S v1 v2 v3 h)
theorem k_X9_point : CalV RX9 yX9_point cX9_point 4 (some .int) rm_X9_point 3 := ⟨q_151, q_152, q_5, q_153, by decide +kernel, rfl, rfl⟩
set_option maxHeartbeats 4000000 in
set_option maxRecDepth 100000 in
theorem t_X9_isPoint {z : SZ × Int} (hc : Cx p R s m args c D (tysWM g) A (WM a g) cX9_isPoint 2 RX9 1 22) (hr : Rtz p l e R s m args below meth c Q D A (WM a g) cX9_isPoint (em z.1, Int32.ofInt z.2)) : ∀ (S : SZ) (v1 : Int), f_X9_isPoint S v1 = some z → Go p l e R s m args below meth c Q D A (WM a g) 2 (em S) 0 [(0, .ref (a 0)), (1, .int (Int32.ofInt v1))] [] := by
  obtain ⟨⟨hx, hb, hml, hown, hts⟩, -, -, -, hnf, hno⟩ := id hc
  intro S v1 h H locs ls hP hS hl
  rw [f_X9_isPoint] at h
  replace hl : lv_has ls 2 [(0, .ref (a 0)), (1, .int (Int32.ofInt v1))] := hl
  refine lv_iload_n hx hb dX9_isPoint_0 rfl (lv_at hl 1 rfl) ?_
  refine lv_iconst (v := Int32.ofInt (0 : Int)) hx hb dX9_isPoint_1 (by decide) ?_
  refine lv_aload_n hx hb dX9_isPoint_2 rfl (lv_at hl 0 rfl) ?_
  refine gzWM_HiddenEdgesModel_points hc hP q_154 dX9_isPoint_3 ?_
  refine lv_iconst (v := Int32.ofInt (1 : Int)) hx hb dX9_isPoint_6 (by decide) ?_
  refine z_isub hx hb dX9_isPoint_7 ?_
  obtain ⟨S1, x3, hk2, h⟩ := ob2_at h
  refine cl_Si (As := [.int (Int32.ofInt v1), .int (Int32.ofInt (0 : Int)), .int (Int32.ofInt ((zi S 0) - (1 : Int)))]) (rest := []) hc k_X9_within q_158 (c_X9_within hk2) hP hS rfl hl (Nat.le_of_ble_eq_true rfl) dX9_isPoint_8 (Nat.le_of_ble_eq_true rfl) (Nat.le_of_ble_eq_true rfl) rfl (fun H locs hP hS => ?_)
  obtain ⟨h4, h⟩ := chk_at h
  obtain rfl := Option.some.inj h
  exact hr (bit_of h4) _ _ _ _ dX9_isPoint_11 hP hS
abbrev rm_X9_isPoint : Room := { frames := 1, cells := 0, slots := 0, locals := 22 }
theorem c_X9_isPoint {l : Launch} {D : va_G} {a : Nat → Nat} {g : Nat → ClassId} {S : SZ} {v1 : Int} {Z1 : SZ} {r1 : Int} (h : f_X9_isPoint S v1 = some (Z1, r1)) : MetI l D (tysWM g) (WM a g) E0 yX9_isPoint cX9_isPoint 2 (some .boolean) rm_X9_isPoint [.ref (a 0), .int (Int32.ofInt v1)] (em S) (em Z1, Int32.ofInt r1) := mk_z (WM_same a g) (by decide) (em Z1, Int32.ofInt r1) (Nat.le_of_ble_eq_true rfl) (fun p e s m args below meth c A Q hc hE hr => t_X9_isPoint (z := (Z1, r1)) hc hr S v1 h)
theorem k_X9_isPoint : CalV RX9 yX9_isPoint cX9_isPoint 2 (some .boolean) rm_X9_isPoint 1 := ⟨q_209, q_210, q_5, q_211, by decide +kernel, rfl, rfl⟩
set_option maxHeartbeats 4000000 in
set_option maxRecDepth 100000 in
theorem t_X9_isStraight {z : SZ × Int} (hc : Cx p R s m args c D (tysWM g) A (WM a g) cX9_isStraight 10 RX9 0 0) (hr : Rtz p l e R s m args below meth c Q D A (WM a g) cX9_isStraight (em z.1, Int32.ofInt z.2)) : ∀ (S : SZ) (v1 : Int) (v2 : Int) (v3 : Int), f_X9_isStraight S v1 v2 v3 = some z → Go p l e R s m args below meth c Q D A (WM a g) 10 (em S) 0 [(0, .ref (a 0)), (1, .int (Int32.ofInt v1)), (2, .int (Int32.ofInt v2)), (3, .int (Int32.ofInt v3))] [] := by
  obtain ⟨⟨hx, hb, hml, hown, hts⟩, -, -, -, hnf, hno⟩ := id hc
  intro S v1 v2 v3 h H locs ls hP hS hl
  rw [f_X9_isStraight] at h
  replace hl : lv_has ls 10 [(0, .ref (a 0)), (1, .int (Int32.ofInt v1)), (2, .int (Int32.ofInt v2)), (3, .int (Int32.ofInt v3))] := hl
  refine lv_aload_n hx hb dX9_isStraight_0 rfl (lv_at hl 0 rfl) ?_
  refine gfWM_HiddenEdgesModel_xOf hc hP q_99 dX9_isStraight_1 ?_
  refine lv_iload_n hx hb dX9_isStraight_4 rfl (lv_at hl 2 rfl) ?_
  obtain ⟨h1, h⟩ := chk_at h
  refine azWM_HiddenEdgesModel_xOf hc hP h1 dX9_isStraight_5 ?_
  refine lv_aload_n hx hb dX9_isStraight_6 rfl (lv_at hl 0 rfl) ?_
  refine gfWM_HiddenEdgesModel_xOf hc hP q_99 dX9_isStraight_7 ?_
  refine lv_iload_n hx hb dX9_isStraight_10 rfl (lv_at hl 1 rfl) ?_
  obtain ⟨h2, h⟩ := chk_at h
  refine azWM_HiddenEdgesModel_xOf hc hP h2 dX9_isStraight_11 ?_
  refine z_isub hx hb dX9_isStraight_12 ?_
  refine z_topi (fun x3 ex3 => ?_)
  replace h := olet_at ex3 h
  refine lv_istore (lv' := [(4, .int (Int32.ofInt x3)), (0, .ref (a 0)), (1, .int (Int32.ofInt v1)), (2, .int (Int32.ofInt v2)), (3, .int (Int32.ofInt v3))]) hx hb dX9_isStraight_13 hl (by decide) rfl (fun ls hl => ?_)
  refine lv_aload_n hx hb dX9_isStraight_15 rfl (lv_at hl 1 rfl) ?_
  refine gfWM_HiddenEdgesModel_yOf hc hP q_100 dX9_isStraight_16 ?_
  refine lv_iload_n hx hb dX9_isStraight_19 rfl (lv_at hl 3 rfl) ?_
  refine azWM_HiddenEdgesModel_yOf hc hP h1 dX9_isStraight_20 ?_
  refine lv_aload_n hx hb dX9_isStraight_21 rfl (lv_at hl 1 rfl) ?_
  refine gfWM_HiddenEdgesModel_yOf hc hP q_100 dX9_isStraight_22 ?_
  refine lv_iload_n hx hb dX9_isStraight_25 rfl (lv_at hl 2 rfl) ?_
  refine azWM_HiddenEdgesModel_yOf hc hP h2 dX9_isStraight_26 ?_
  refine z_isub hx hb dX9_isStraight_27 ?_
  refine z_topi (fun x4 ex4 => ?_)
  replace h := olet_at ex4 h
  refine lv_istore (lv' := [(5, .int (Int32.ofInt x4)), (4, .int (Int32.ofInt x3)), (0, .ref (a 0)), (1, .int (Int32.ofInt v1)), (2, .int (Int32.ofInt v2)), (3, .int (Int32.ofInt v3))]) hx hb dX9_isStraight_28 hl (by decide) rfl (fun ls hl => ?_)
  refine lv_aload_n hx hb dX9_isStraight_30 rfl (lv_at hl 2 rfl) ?_
  refine gfWM_HiddenEdgesModel_zOf hc hP q_101 dX9_isStraight_31 ?_
  refine lv_iload_n hx hb dX9_isStraight_34 rfl (lv_at hl 4 rfl) ?_
  refine azWM_HiddenEdgesModel_zOf hc hP h1 dX9_isStraight_35 ?_
  refine lv_aload_n hx hb dX9_isStraight_36 rfl (lv_at hl 2 rfl) ?_
  refine gfWM_HiddenEdgesModel_zOf hc hP q_101 dX9_isStraight_37 ?_
  refine lv_iload_n hx hb dX9_isStraight_40 rfl (lv_at hl 3 rfl) ?_
  refine azWM_HiddenEdgesModel_zOf hc hP h2 dX9_isStraight_41 ?_
  refine z_isub hx hb dX9_isStraight_42 ?_
  refine z_topi (fun x5 ex5 => ?_)
  replace h := olet_at ex5 h
  refine lv_istore (lv' := [(6, .int (Int32.ofInt x5)), (5, .int (Int32.ofInt x4)), (4, .int (Int32.ofInt x3)), (0, .ref (a 0)), (1, .int (Int32.ofInt v1)), (2, .int (Int32.ofInt v2)), (3, .int (Int32.ofInt v3))]) hx hb dX9_isStraight_43 hl (by decide) rfl (fun ls hl => ?_)
  refine lv_aload_n hx hb dX9_isStraight_45 rfl (lv_at hl 3 rfl) ?_
  refine gfWM_HiddenEdgesModel_xOf hc hP q_99 dX9_isStraight_46 ?_
  refine lv_iload_n hx hb dX9_isStraight_49 rfl (lv_at hl 6 rfl) ?_
  obtain ⟨h6, h⟩ := chk_at h
  refine azWM_HiddenEdgesModel_xOf hc hP h6 dX9_isStraight_50 ?_
  refine lv_aload_n hx hb dX9_isStraight_51 rfl (lv_at hl 3 rfl) ?_
  refine gfWM_HiddenEdgesModel_xOf hc hP q_99 dX9_isStraight_52 ?_
  refine lv_iload_n hx hb dX9_isStraight_55 rfl (lv_at hl 4 rfl) ?_
  refine azWM_HiddenEdgesModel_xOf hc hP h2 dX9_isStraight_56 ?_
  refine z_isub hx hb dX9_isStraight_57 ?_
  refine z_topi (fun x7 ex7 => ?_)
  replace h := olet_at ex7 h
  refine lv_istore (lv' := [(7, .int (Int32.ofInt x7)), (6, .int (Int32.ofInt x5)), (5, .int (Int32.ofInt x4)), (4, .int (Int32.ofInt x3)), (0, .ref (a 0)), (1, .int (Int32.ofInt v1)), (2, .int (Int32.ofInt v2)), (3, .int (Int32.ofInt v3))]) hx hb dX9_isStraight_58 hl (by decide) rfl (fun ls hl => ?_)
  refine lv_aload_n hx hb dX9_isStraight_60 rfl (lv_at hl 4 rfl) ?_
  refine gfWM_HiddenEdgesModel_yOf hc hP q_100 dX9_isStraight_61 ?_
  refine lv_iload_n hx hb dX9_isStraight_64 rfl (lv_at hl 7 rfl) ?_
  refine azWM_HiddenEdgesModel_yOf hc hP h6 dX9_isStraight_65 ?_
  refine lv_aload_n hx hb dX9_isStraight_66 rfl (lv_at hl 4 rfl) ?_
  refine gfWM_HiddenEdgesModel_yOf hc hP q_100 dX9_isStraight_67 ?_
  refine lv_iload_n hx hb dX9_isStraight_70 rfl (lv_at hl 5 rfl) ?_
  refine azWM_HiddenEdgesModel_yOf hc hP h2 dX9_isStraight_71 ?_
  refine z_isub hx hb dX9_isStraight_72 ?_
  refine z_topi (fun x8 ex8 => ?_)
  replace h := olet_at ex8 h
  refine lv_istore (lv' := [(8, .int (Int32.ofInt x8)), (7, .int (Int32.ofInt x7)), (6, .int (Int32.ofInt x5)), (5, .int (Int32.ofInt x4)), (4, .int (Int32.ofInt x3)), (0, .ref (a 0)), (1, .int (Int32.ofInt v1)), (2, .int (Int32.ofInt v2)), (3, .int (Int32.ofInt v3))]) hx hb dX9_isStraight_73 hl (by decide) rfl (fun ls hl => ?_)
  refine lv_aload_n hx hb dX9_isStraight_75 rfl (lv_at hl 5 rfl) ?_
  refine gfWM_HiddenEdgesModel_zOf hc hP q_101 dX9_isStraight_76 ?_
  refine lv_iload_n hx hb dX9_isStraight_79 rfl (lv_at hl 8 rfl) ?_
  refine azWM_HiddenEdgesModel_zOf hc hP h6 dX9_isStraight_80 ?_
  refine lv_aload_n hx hb dX9_isStraight_81 rfl (lv_at hl 5 rfl) ?_
  refine gfWM_HiddenEdgesModel_zOf hc hP q_101 dX9_isStraight_82 ?_
  refine lv_iload_n hx hb dX9_isStraight_85 rfl (lv_at hl 6 rfl) ?_
  refine azWM_HiddenEdgesModel_zOf hc hP h2 dX9_isStraight_86 ?_
  refine z_isub hx hb dX9_isStraight_87 ?_
  refine z_topi (fun x9 ex9 => ?_)
  replace h := olet_at ex9 h
  refine lv_istore (lv' := [(9, .int (Int32.ofInt x9)), (8, .int (Int32.ofInt x8)), (7, .int (Int32.ofInt x7)), (6, .int (Int32.ofInt x5)), (5, .int (Int32.ofInt x4)), (4, .int (Int32.ofInt x3)), (0, .ref (a 0)), (1, .int (Int32.ofInt v1)), (2, .int (Int32.ofInt v2)), (3, .int (Int32.ofInt v3))]) hx hb dX9_isStraight_88 hl (by decide) rfl (fun ls hl => ?_)
  refine lv_iload hx hb dX9_isStraight_90 (lv_at hl 4 rfl) ?_
  refine lv_iload hx hb dX9_isStraight_92 (lv_at hl 0 rfl) ?_
  refine z_imul hx hb dX9_isStraight_94 ?_
  refine lv_iload hx hb dX9_isStraight_95 (lv_at hl 3 rfl) ?_
  refine lv_iload hx hb dX9_isStraight_97 (lv_at hl 1 rfl) ?_
  refine z_imul hx hb dX9_isStraight_99 ?_
  obtain ⟨h10, h⟩ := chk_at h
  obtain ⟨h11, h⟩ := chk_at h
  refine z_icmp_ne (tgt := 133) hx hb h10 h11 dX9_isStraight_100 (by decide) (fun hq => ?_) (fun hq => ?_)
  · replace h := if_no hq h
    refine lv_iconst (v := Int32.ofInt (0 : Int)) hx hb dX9_isStraight_133 (by decide) ?_
    obtain rfl := Option.some.inj h
    exact hr (bit_of (Or.inl rfl)) _ _ _ _ dX9_isStraight_134 hP hS
  · replace h := if_yes hq h
    refine lv_iload hx hb dX9_isStraight_103 (lv_at hl 3 rfl) ?_
    refine lv_iload hx hb dX9_isStraight_105 (lv_at hl 2 rfl) ?_
    refine z_imul hx hb dX9_isStraight_107 ?_
    refine lv_iload hx hb dX9_isStraight_108 (lv_at hl 5 rfl) ?_
    refine lv_iload hx hb dX9_isStraight_110 (lv_at hl 0 rfl) ?_
    refine z_imul hx hb dX9_isStraight_112 ?_
    obtain ⟨h12, h⟩ := chk_at h
    obtain ⟨h13, h⟩ := chk_at h
    refine z_icmp_ne (tgt := 133) hx hb h12 h13 dX9_isStraight_113 (by decide) (fun hq => ?_) (fun hq => ?_)
    · replace h := if_no hq h
      refine lv_iconst (v := Int32.ofInt (0 : Int)) hx hb dX9_isStraight_133 (by decide) ?_
      obtain rfl := Option.some.inj h
      exact hr (bit_of (Or.inl rfl)) _ _ _ _ dX9_isStraight_134 hP hS
    · replace h := if_yes hq h
      refine lv_iload hx hb dX9_isStraight_116 (lv_at hl 5 rfl) ?_
      refine lv_iload hx hb dX9_isStraight_118 (lv_at hl 1 rfl) ?_
      refine z_imul hx hb dX9_isStraight_120 ?_
      refine lv_iload hx hb dX9_isStraight_121 (lv_at hl 4 rfl) ?_
      refine lv_iload hx hb dX9_isStraight_123 (lv_at hl 2 rfl) ?_
      refine z_imul hx hb dX9_isStraight_125 ?_
      obtain ⟨h14, h⟩ := chk_at h
      obtain ⟨h15, h⟩ := chk_at h
      refine z_icmp_ne (tgt := 133) hx hb h14 h15 dX9_isStraight_126 (by decide) (fun hq => ?_) (fun hq => ?_)
      · replace h := if_no hq h
        refine lv_iconst (v := Int32.ofInt (0 : Int)) hx hb dX9_isStraight_133 (by decide) ?_
        obtain rfl := Option.some.inj h
        exact hr (bit_of (Or.inl rfl)) _ _ _ _ dX9_isStraight_134 hP hS
      · replace h := if_yes hq h
        refine lv_iconst (v := Int32.ofInt (1 : Int)) hx hb dX9_isStraight_129 (by decide) ?_
        refine lv_goto (tgt := 134) hx hb dX9_isStraight_130 (by decide) ?_
        obtain rfl := Option.some.inj h
        exact hr (bit_of (Or.inr rfl)) _ _ _ _ dX9_isStraight_134 hP hS
abbrev rm_X9_isStraight : Room := { frames := 0, cells := 0, slots := 0, locals := 0 }
theorem c_X9_isStraight {l : Launch} {D : va_G} {a : Nat → Nat} {g : Nat → ClassId} {S : SZ} {v1 : Int} {v2 : Int} {v3 : Int} {Z1 : SZ} {r1 : Int} (h : f_X9_isStraight S v1 v2 v3 = some (Z1, r1)) : MetI l D (tysWM g) (WM a g) E0 yX9_isStraight cX9_isStraight 10 (some .boolean) rm_X9_isStraight [.ref (a 0), .int (Int32.ofInt v1), .int (Int32.ofInt v2), .int (Int32.ofInt v3)] (em S) (em Z1, Int32.ofInt r1) := mk_z (WM_same a g) (by decide) (em Z1, Int32.ofInt r1) (Nat.le_of_ble_eq_true rfl) (fun p e s m args below meth c A Q hc hE hr => t_X9_isStraight (z := (Z1, r1)) hc hr S v1 v2 v3 h)
theorem k_X9_isStraight : CalV RX9 yX9_isStraight cX9_isStraight 10 (some .boolean) rm_X9_isStraight 3 := ⟨q_213, q_214, q_5, q_215, by decide +kernel, rfl, rfl⟩
set_option maxHeartbeats 4000000 in
set_option maxRecDepth 100000 in
theorem t_X9_hasCorner {z : SZ × Int} (hc : Cx p R s m args c D (tysWM g) A (WM a g) cX9_hasCorner 3 RX9 0 0) (hr : Rtz p l e R s m args below meth c Q D A (WM a g) cX9_hasCorner (em z.1, Int32.ofInt z.2)) : ∀ (S : SZ) (v1 : Int) (v2 : Int), f_X9_hasCorner S v1 v2 = some z → Go p l e R s m args below meth c Q D A (WM a g) 3 (em S) 0 [(0, .ref (a 0)), (1, .int (Int32.ofInt v1)), (2, .int (Int32.ofInt v2))] [] := by
  obtain ⟨⟨hx, hb, hml, hown, hts⟩, -, -, -, hnf, hno⟩ := id hc
  intro S v1 v2 h H locs ls hP hS hl
  rw [f_X9_hasCorner] at h
  replace hl : lv_has ls 3 [(0, .ref (a 0)), (1, .int (Int32.ofInt v1)), (2, .int (Int32.ofInt v2))] := hl
  refine lv_aload_n hx hb dX9_hasCorner_0 rfl (lv_at hl 0 rfl) ?_
  refine gfWM_HiddenEdgesModel_cornerOf hc hP q_102 dX9_hasCorner_1 ?_
  refine lv_iconst (v := Int32.ofInt (3 : Int)) hx hb dX9_hasCorner_4 (by decide) ?_
  refine lv_iload_n hx hb dX9_hasCorner_5 rfl (lv_at hl 1 rfl) ?_
  refine z_imul hx hb dX9_hasCorner_6 ?_
  obtain ⟨h1, h⟩ := chk_at h
  refine azWM_HiddenEdgesModel_cornerOf hc hP h1 dX9_hasCorner_7 ?_
  refine lv_iload_n hx hb dX9_hasCorner_8 rfl (lv_at hl 2 rfl) ?_
  obtain ⟨h2, h⟩ := chk_at h
  obtain ⟨h3, h⟩ := chk_at h
  refine z_icmp_eq (tgt := 40) hx hb h2 h3 dX9_hasCorner_9 (by decide) (fun hq => ?_) (fun hq => ?_)
  · replace h := if_yes hq h
    refine lv_iconst (v := Int32.ofInt (1 : Int)) hx hb dX9_hasCorner_40 (by decide) ?_
    refine lv_goto (tgt := 45) hx hb dX9_hasCorner_41 (by decide) ?_
    obtain rfl := Option.some.inj h
    exact hr (bit_of (Or.inr rfl)) _ _ _ _ dX9_hasCorner_45 hP hS
  · replace h := if_no hq h
    refine lv_aload_n hx hb dX9_hasCorner_12 rfl (lv_at hl 0 rfl) ?_
    refine gfWM_HiddenEdgesModel_cornerOf hc hP q_102 dX9_hasCorner_13 ?_
    refine lv_iconst (v := Int32.ofInt (3 : Int)) hx hb dX9_hasCorner_16 (by decide) ?_
    refine lv_iload_n hx hb dX9_hasCorner_17 rfl (lv_at hl 1 rfl) ?_
    refine z_imul hx hb dX9_hasCorner_18 ?_
    refine lv_iconst (v := Int32.ofInt (1 : Int)) hx hb dX9_hasCorner_19 (by decide) ?_
    refine z_iadd hx hb dX9_hasCorner_20 ?_
    obtain ⟨h4, h⟩ := chk_at h
    refine azWM_HiddenEdgesModel_cornerOf hc hP h4 dX9_hasCorner_21 ?_
    refine lv_iload_n hx hb dX9_hasCorner_22 rfl (lv_at hl 2 rfl) ?_
    obtain ⟨h5, h⟩ := chk_at h
    refine z_icmp_eq (tgt := 40) hx hb h5 h3 dX9_hasCorner_23 (by decide) (fun hq => ?_) (fun hq => ?_)
    · replace h := if_yes hq h
      refine lv_iconst (v := Int32.ofInt (1 : Int)) hx hb dX9_hasCorner_40 (by decide) ?_
      refine lv_goto (tgt := 45) hx hb dX9_hasCorner_41 (by decide) ?_
      obtain rfl := Option.some.inj h
      exact hr (bit_of (Or.inr rfl)) _ _ _ _ dX9_hasCorner_45 hP hS
    · replace h := if_no hq h
      refine lv_aload_n hx hb dX9_hasCorner_26 rfl (lv_at hl 0 rfl) ?_
      refine gfWM_HiddenEdgesModel_cornerOf hc hP q_102 dX9_hasCorner_27 ?_
      refine lv_iconst (v := Int32.ofInt (3 : Int)) hx hb dX9_hasCorner_30 (by decide) ?_
      refine lv_iload_n hx hb dX9_hasCorner_31 rfl (lv_at hl 1 rfl) ?_
      refine z_imul hx hb dX9_hasCorner_32 ?_
      refine lv_iconst (v := Int32.ofInt (2 : Int)) hx hb dX9_hasCorner_33 (by decide) ?_
      refine z_iadd hx hb dX9_hasCorner_34 ?_
      obtain ⟨h6, h⟩ := chk_at h
      refine azWM_HiddenEdgesModel_cornerOf hc hP h6 dX9_hasCorner_35 ?_
      refine lv_iload_n hx hb dX9_hasCorner_36 rfl (lv_at hl 2 rfl) ?_
      obtain ⟨h7, h⟩ := chk_at h
      refine z_icmp_ne (tgt := 44) hx hb h7 h3 dX9_hasCorner_37 (by decide) (fun hq => ?_) (fun hq => ?_)
      · replace h := if_no hq h
        refine lv_iconst (v := Int32.ofInt (0 : Int)) hx hb dX9_hasCorner_44 (by decide) ?_
        obtain rfl := Option.some.inj h
        exact hr (bit_of (Or.inl rfl)) _ _ _ _ dX9_hasCorner_45 hP hS
      · replace h := if_yes hq h
        refine lv_iconst (v := Int32.ofInt (1 : Int)) hx hb dX9_hasCorner_40 (by decide) ?_
        refine lv_goto (tgt := 45) hx hb dX9_hasCorner_41 (by decide) ?_
        obtain rfl := Option.some.inj h
        exact hr (bit_of (Or.inr rfl)) _ _ _ _ dX9_hasCorner_45 hP hS
abbrev rm_X9_hasCorner : Room := { frames := 0, cells := 0, slots := 0, locals := 0 }
theorem c_X9_hasCorner {l : Launch} {D : va_G} {a : Nat → Nat} {g : Nat → ClassId} {S : SZ} {v1 : Int} {v2 : Int} {Z1 : SZ} {r1 : Int} (h : f_X9_hasCorner S v1 v2 = some (Z1, r1)) : MetI l D (tysWM g) (WM a g) E0 yX9_hasCorner cX9_hasCorner 3 (some .boolean) rm_X9_hasCorner [.ref (a 0), .int (Int32.ofInt v1), .int (Int32.ofInt v2)] (em S) (em Z1, Int32.ofInt r1) := mk_z (WM_same a g) (by decide) (em Z1, Int32.ofInt r1) (Nat.le_of_ble_eq_true rfl) (fun p e s m args below meth c A Q hc hE hr => t_X9_hasCorner (z := (Z1, r1)) hc hr S v1 v2 h)
theorem k_X9_hasCorner : CalV RX9 yX9_hasCorner cX9_hasCorner 3 (some .boolean) rm_X9_hasCorner 2 := ⟨q_221, q_222, q_5, q_223, by decide +kernel, rfl, rfl⟩
set_option maxHeartbeats 4000000 in
set_option maxRecDepth 100000 in
theorem t_X9_isFaceOf_p3 {z : SZ × Int} (hc : Cx p R s m args c D (tysWM g) A (WM a g) cX9_isFaceOf 5 RX9 1 22) (hr : Rtz p l e R s m args below meth c Q D A (WM a g) cX9_isFaceOf (em z.1, Int32.ofInt z.2)) : ∀ (fu : Nat) (S : SZ) (v1 : Int) (v2 : Int) (v3 : Int) (v4 : Int), f_X9_isFaceOf_p3 fu S v1 v2 v3 v4 = some z → Go p l e R s m args below meth c Q D A (WM a g) 5 (em S) 3 [(0, .ref (a 0)), (1, .int (Int32.ofInt v1)), (2, .int (Int32.ofInt v2)), (3, .int (Int32.ofInt v3)), (4, .int (Int32.ofInt v4))] [] := by
  obtain ⟨⟨hx, hb, hml, hown, hts⟩, -, -, -, hnf, hno⟩ := id hc
  intro fu
  induction fu with
  | zero =>
    intro S v1 v2 v3 v4 h
    rw [f_X9_isFaceOf_p3] at h
    cases h
  | succ fu ih =>
    intro S v1 v2 v3 v4 h H locs ls hP hS hl
    rw [f_X9_isFaceOf_p3] at h
    refine lv_iload hx hb dX9_isFaceOf_3 (lv_at hl 4 rfl) ?_
    refine lv_aload_n hx hb dX9_isFaceOf_5 rfl (lv_at hl 0 rfl) ?_
    refine gzWM_HiddenEdgesModel_faces hc hP q_207 dX9_isFaceOf_6 ?_
    obtain ⟨h1, h⟩ := chk_at h
    obtain ⟨h2, h⟩ := chk_at h
    refine z_icmp_ge (tgt := 50) hx hb h1 h2 dX9_isFaceOf_9 (by decide) (fun hq => ?_) (fun hq => ?_)
    · replace h := if_yes hq h
      refine lv_iconst (v := Int32.ofInt (0 : Int)) hx hb dX9_isFaceOf_50 (by decide) ?_
      obtain rfl := Option.some.inj h
      exact hr (bit_of (Or.inl rfl)) _ _ _ _ dX9_isFaceOf_51 hP hS
    · replace h := if_no hq h
      refine lv_aload_n hx hb dX9_isFaceOf_12 rfl (lv_at hl 0 rfl) ?_
      refine lv_iload hx hb dX9_isFaceOf_13 (lv_at hl 4 rfl) ?_
      refine lv_iload_n hx hb dX9_isFaceOf_15 rfl (lv_at hl 1 rfl) ?_
      obtain ⟨S3, x5, hk4, h⟩ := ob2_at h
      refine cl_Vi (As := [.int (Int32.ofInt v4), .int (Int32.ofInt v1)]) (rest := []) hc k_X9_hasCorner q_220 (c_X9_hasCorner hk4) hP hS (WM_0 a g (em S)) rfl rfl rfl hl (Nat.le_of_ble_eq_true rfl) dX9_isFaceOf_16 (Nat.le_of_ble_eq_true rfl) (Nat.le_of_ble_eq_true rfl) rfl (fun H locs hP hS => ?_)
      obtain ⟨h6, h⟩ := chk_at h
      refine z_if_eq (tgt := 44) hx hb h6 dX9_isFaceOf_19 (by decide) (fun hq => ?_) (fun hq => ?_)
      · replace h := if_yes hq h
        obtain ⟨x7, ex7⟩ : ∃ y : Int, y = v4 + (1 : Int) := ⟨_, rfl⟩
        replace h := olet_at ex7 h
        refine lv_iinc (v := Int32.ofInt x7) (lv' := [(4, .int (Int32.ofInt x7)), (0, .ref (a 0)), (1, .int (Int32.ofInt v1)), (2, .int (Int32.ofInt v2)), (3, .int (Int32.ofInt v3))]) hx hb dX9_isFaceOf_44 hl (k := 4) rfl (by rw [ex7, Int32.ofInt_add]) (by decide) rfl (fun ls hl => ?_)
        refine lv_goto (tgt := 3) hx hb dX9_isFaceOf_47 (by decide) ?_
        exact ih S3 v1 v2 v3 x7 h H locs ls hP hS (lv_sub hl [1, 2, 3, 4, 0] rfl)
      · replace h := if_no hq h
        refine lv_aload_n hx hb dX9_isFaceOf_22 rfl (lv_at hl 0 rfl) ?_
        refine lv_iload hx hb dX9_isFaceOf_23 (lv_at hl 4 rfl) ?_
        refine lv_iload_n hx hb dX9_isFaceOf_25 rfl (lv_at hl 2 rfl) ?_
        obtain ⟨S8, x10, hk9, h⟩ := ob2_at h
        refine cl_Vi (As := [.int (Int32.ofInt v4), .int (Int32.ofInt v2)]) (rest := []) hc k_X9_hasCorner q_220 (c_X9_hasCorner hk9) hP hS (WM_0 a g (em S3)) rfl rfl rfl hl (Nat.le_of_ble_eq_true rfl) dX9_isFaceOf_26 (Nat.le_of_ble_eq_true rfl) (Nat.le_of_ble_eq_true rfl) rfl (fun H locs hP hS => ?_)
        obtain ⟨h11, h⟩ := chk_at h
        refine z_if_eq (tgt := 44) hx hb h11 dX9_isFaceOf_29 (by decide) (fun hq => ?_) (fun hq => ?_)
        · replace h := if_yes hq h
          obtain ⟨x12, ex12⟩ : ∃ y : Int, y = v4 + (1 : Int) := ⟨_, rfl⟩
          replace h := olet_at ex12 h
          refine lv_iinc (v := Int32.ofInt x12) (lv' := [(4, .int (Int32.ofInt x12)), (0, .ref (a 0)), (1, .int (Int32.ofInt v1)), (2, .int (Int32.ofInt v2)), (3, .int (Int32.ofInt v3))]) hx hb dX9_isFaceOf_44 hl (k := 4) rfl (by rw [ex12, Int32.ofInt_add]) (by decide) rfl (fun ls hl => ?_)
          refine lv_goto (tgt := 3) hx hb dX9_isFaceOf_47 (by decide) ?_
          exact ih S8 v1 v2 v3 x12 h H locs ls hP hS (lv_sub hl [1, 2, 3, 4, 0] rfl)
        · replace h := if_no hq h
          refine lv_aload_n hx hb dX9_isFaceOf_32 rfl (lv_at hl 0 rfl) ?_
          refine lv_iload hx hb dX9_isFaceOf_33 (lv_at hl 4 rfl) ?_
          refine lv_iload_n hx hb dX9_isFaceOf_35 rfl (lv_at hl 3 rfl) ?_
          obtain ⟨S13, x15, hk14, h⟩ := ob2_at h
          refine cl_Vi (As := [.int (Int32.ofInt v4), .int (Int32.ofInt v3)]) (rest := []) hc k_X9_hasCorner q_220 (c_X9_hasCorner hk14) hP hS (WM_0 a g (em S8)) rfl rfl rfl hl (Nat.le_of_ble_eq_true rfl) dX9_isFaceOf_36 (Nat.le_of_ble_eq_true rfl) (Nat.le_of_ble_eq_true rfl) rfl (fun H locs hP hS => ?_)
          obtain ⟨h16, h⟩ := chk_at h
          refine z_if_eq (tgt := 44) hx hb h16 dX9_isFaceOf_39 (by decide) (fun hq => ?_) (fun hq => ?_)
          · replace h := if_yes hq h
            obtain ⟨x17, ex17⟩ : ∃ y : Int, y = v4 + (1 : Int) := ⟨_, rfl⟩
            replace h := olet_at ex17 h
            refine lv_iinc (v := Int32.ofInt x17) (lv' := [(4, .int (Int32.ofInt x17)), (0, .ref (a 0)), (1, .int (Int32.ofInt v1)), (2, .int (Int32.ofInt v2)), (3, .int (Int32.ofInt v3))]) hx hb dX9_isFaceOf_44 hl (k := 4) rfl (by rw [ex17, Int32.ofInt_add]) (by decide) rfl (fun ls hl => ?_)
            refine lv_goto (tgt := 3) hx hb dX9_isFaceOf_47 (by decide) ?_
            exact ih S13 v1 v2 v3 x17 h H locs ls hP hS (lv_sub hl [1, 2, 3, 4, 0] rfl)
          · replace h := if_no hq h
            refine lv_iconst (v := Int32.ofInt (1 : Int)) hx hb dX9_isFaceOf_42 (by decide) ?_
            obtain rfl := Option.some.inj h
            exact hr (bit_of (Or.inr rfl)) _ _ _ _ dX9_isFaceOf_43 hP hS
set_option maxHeartbeats 4000000 in
set_option maxRecDepth 100000 in
theorem t_X9_isFaceOf {z : SZ × Int} (hc : Cx p R s m args c D (tysWM g) A (WM a g) cX9_isFaceOf 5 RX9 1 22) (hr : Rtz p l e R s m args below meth c Q D A (WM a g) cX9_isFaceOf (em z.1, Int32.ofInt z.2)) : ∀ (S : SZ) (v1 : Int) (v2 : Int) (v3 : Int), f_X9_isFaceOf S v1 v2 v3 = some z → Go p l e R s m args below meth c Q D A (WM a g) 5 (em S) 0 [(0, .ref (a 0)), (1, .int (Int32.ofInt v1)), (2, .int (Int32.ofInt v2)), (3, .int (Int32.ofInt v3))] [] := by
  obtain ⟨⟨hx, hb, hml, hown, hts⟩, -, -, -, hnf, hno⟩ := id hc
  intro S v1 v2 v3 h H locs ls hP hS hl
  rw [f_X9_isFaceOf] at h
  replace hl : lv_has ls 5 [(0, .ref (a 0)), (1, .int (Int32.ofInt v1)), (2, .int (Int32.ofInt v2)), (3, .int (Int32.ofInt v3))] := hl
  refine lv_iconst (v := Int32.ofInt (0 : Int)) hx hb dX9_isFaceOf_0 (by decide) ?_
  refine lv_istore (lv' := [(4, .int (Int32.ofInt (0 : Int))), (0, .ref (a 0)), (1, .int (Int32.ofInt v1)), (2, .int (Int32.ofInt v2)), (3, .int (Int32.ofInt v3))]) hx hb dX9_isFaceOf_1 hl (by decide) rfl (fun ls hl => ?_)
  exact t_X9_isFaceOf_p3 hc hr FU S v1 v2 v3 (0 : Int) h H locs ls hP hS (lv_sub hl [1, 2, 3, 4, 0] rfl)
abbrev rm_X9_isFaceOf : Room := { frames := 1, cells := 0, slots := 0, locals := 22 }
theorem c_X9_isFaceOf {l : Launch} {D : va_G} {a : Nat → Nat} {g : Nat → ClassId} {S : SZ} {v1 : Int} {v2 : Int} {v3 : Int} {Z1 : SZ} {r1 : Int} (h : f_X9_isFaceOf S v1 v2 v3 = some (Z1, r1)) : MetI l D (tysWM g) (WM a g) E0 yX9_isFaceOf cX9_isFaceOf 5 (some .boolean) rm_X9_isFaceOf [.ref (a 0), .int (Int32.ofInt v1), .int (Int32.ofInt v2), .int (Int32.ofInt v3)] (em S) (em Z1, Int32.ofInt r1) := mk_z (WM_same a g) (by decide) (em Z1, Int32.ofInt r1) (Nat.le_of_ble_eq_true rfl) (fun p e s m args below meth c A Q hc hE hr => t_X9_isFaceOf (z := (Z1, r1)) hc hr S v1 v2 v3 h)
theorem k_X9_isFaceOf : CalV RX9 yX9_isFaceOf cX9_isFaceOf 5 (some .boolean) rm_X9_isFaceOf 3 := ⟨q_217, q_218, q_5, q_219, by decide +kernel, rfl, rfl⟩
set_option maxHeartbeats 4000000 in
set_option maxRecDepth 100000 in
theorem t_X9_faceComes {z : SZ} (hc : Cx p R s m args c D (tysWM g) A (WM a g) cX9_faceComes 4 RX9 0 0) (hr : Rtv p l e R s m args below meth c Q D A (WM a g) cX9_faceComes (em z)) : ∀ (S : SZ) (v1 : Int) (v2 : Int) (v3 : Int), f_X9_faceComes S v1 v2 v3 = some z → Go p l e R s m args below meth c Q D A (WM a g) 4 (em S) 0 [(0, .ref (a 0)), (1, .int (Int32.ofInt v1)), (2, .int (Int32.ofInt v2)), (3, .int (Int32.ofInt v3))] [] := by
  obtain ⟨⟨hx, hb, hml, hown, hts⟩, -, -, -, hnf, hno⟩ := id hc
  intro S v1 v2 v3 h H locs ls hP hS hl
  rw [f_X9_faceComes] at h
  replace hl : lv_has ls 4 [(0, .ref (a 0)), (1, .int (Int32.ofInt v1)), (2, .int (Int32.ofInt v2)), (3, .int (Int32.ofInt v3))] := hl
  refine lv_aload_n hx hb dX9_faceComes_0 rfl (lv_at hl 0 rfl) ?_
  refine gfWM_HiddenEdgesModel_cornerOf hc hP q_102 dX9_faceComes_1 ?_
  refine lv_iconst (v := Int32.ofInt (3 : Int)) hx hb dX9_faceComes_4 (by decide) ?_
  refine lv_aload_n hx hb dX9_faceComes_5 rfl (lv_at hl 0 rfl) ?_
  refine gzWM_HiddenEdgesModel_faces hc hP q_207 dX9_faceComes_6 ?_
  refine z_imul hx hb dX9_faceComes_9 ?_
  refine lv_iload_n hx hb dX9_faceComes_10 rfl (lv_at hl 1 rfl) ?_
  obtain ⟨h1, h⟩ := chk_at h
  refine szWM_HiddenEdgesModel_cornerOf hc hP hS h1 dX9_faceComes_11 (fun H locs hP hS => ?_)
  obtain ⟨S2, eS2⟩ : ∃ z, z = ua S 3 (((3 : Int) * (zi S 1))).toNat v1 := ⟨_, rfl⟩
  replace h := olet_at eS2 h
  rw [← eS2] at hP
  refine lv_aload_n hx hb dX9_faceComes_12 rfl (lv_at hl 0 rfl) ?_
  refine gfWM_HiddenEdgesModel_cornerOf hc hP q_102 dX9_faceComes_13 ?_
  refine lv_iconst (v := Int32.ofInt (3 : Int)) hx hb dX9_faceComes_16 (by decide) ?_
  refine lv_aload_n hx hb dX9_faceComes_17 rfl (lv_at hl 0 rfl) ?_
  refine gzWM_HiddenEdgesModel_faces hc hP q_207 dX9_faceComes_18 ?_
  refine z_imul hx hb dX9_faceComes_21 ?_
  refine lv_iconst (v := Int32.ofInt (1 : Int)) hx hb dX9_faceComes_22 (by decide) ?_
  refine z_iadd hx hb dX9_faceComes_23 ?_
  refine lv_iload_n hx hb dX9_faceComes_24 rfl (lv_at hl 2 rfl) ?_
  obtain ⟨h3, h⟩ := chk_at h
  refine szWM_HiddenEdgesModel_cornerOf hc hP hS h3 dX9_faceComes_25 (fun H locs hP hS => ?_)
  obtain ⟨S4, eS4⟩ : ∃ z, z = ua S2 3 ((((3 : Int) * (zi S2 1)) + (1 : Int))).toNat v2 := ⟨_, rfl⟩
  replace h := olet_at eS4 h
  rw [← eS4] at hP
  refine lv_aload_n hx hb dX9_faceComes_26 rfl (lv_at hl 0 rfl) ?_
  refine gfWM_HiddenEdgesModel_cornerOf hc hP q_102 dX9_faceComes_27 ?_
  refine lv_iconst (v := Int32.ofInt (3 : Int)) hx hb dX9_faceComes_30 (by decide) ?_
  refine lv_aload_n hx hb dX9_faceComes_31 rfl (lv_at hl 0 rfl) ?_
  refine gzWM_HiddenEdgesModel_faces hc hP q_207 dX9_faceComes_32 ?_
  refine z_imul hx hb dX9_faceComes_35 ?_
  refine lv_iconst (v := Int32.ofInt (2 : Int)) hx hb dX9_faceComes_36 (by decide) ?_
  refine z_iadd hx hb dX9_faceComes_37 ?_
  refine lv_iload_n hx hb dX9_faceComes_38 rfl (lv_at hl 3 rfl) ?_
  obtain ⟨h5, h⟩ := chk_at h
  refine szWM_HiddenEdgesModel_cornerOf hc hP hS h5 dX9_faceComes_39 (fun H locs hP hS => ?_)
  obtain ⟨S6, eS6⟩ : ∃ z, z = ua S4 3 ((((3 : Int) * (zi S4 1)) + (2 : Int))).toNat v3 := ⟨_, rfl⟩
  replace h := olet_at eS6 h
  rw [← eS6] at hP
  refine lv_aload_n hx hb dX9_faceComes_40 rfl (lv_at hl 0 rfl) ?_
  refine lv_dup hx hb dX9_faceComes_41 rfl ?_
  refine gzWM_HiddenEdgesModel_faces hc hP q_207 dX9_faceComes_42 ?_
  refine lv_iconst (v := Int32.ofInt (1 : Int)) hx hb dX9_faceComes_45 (by decide) ?_
  refine z_iadd hx hb dX9_faceComes_46 ?_
  refine pzWM_HiddenEdgesModel_faces hc hP hS q_207 dX9_faceComes_47 (fun H locs hP hS => ?_)
  obtain ⟨S7, eS7⟩ : ∃ z, z = ui S6 1 ((zi S6 1) + (1 : Int)) := ⟨_, rfl⟩
  replace h := olet_at eS7 h
  rw [← eS7] at hP
  refine lv_aload_n hx hb dX9_faceComes_50 rfl (lv_at hl 0 rfl) ?_
  refine lv_iconst (v := Int32.ofInt (0 : Int)) hx hb dX9_faceComes_51 (by decide) ?_
  refine pzWM_HiddenEdgesModel_isFound hc hP hS (Or.inl rfl) q_169 dX9_faceComes_52 (fun H locs hP hS => ?_)
  obtain ⟨S8, eS8⟩ : ∃ z, z = ui S7 6 (0 : Int) := ⟨_, rfl⟩
  replace h := olet_at eS8 h
  rw [← eS8] at hP
  obtain rfl := Option.some.inj h
  exact hr _ _ _ _ dX9_faceComes_55 hP hS
abbrev rm_X9_faceComes : Room := { frames := 0, cells := 0, slots := 0, locals := 0 }
theorem c_X9_faceComes {l : Launch} {D : va_G} {a : Nat → Nat} {g : Nat → ClassId} {S : SZ} {v1 : Int} {v2 : Int} {v3 : Int} {z : SZ} (h : f_X9_faceComes S v1 v2 v3 = some z) : MetV l D (tysWM g) (WM a g) E0 yX9_faceComes cX9_faceComes 4 none rm_X9_faceComes [.ref (a 0), .int (Int32.ofInt v1), .int (Int32.ofInt v2), .int (Int32.ofInt v3)] (em S) (em z) := mk_v (WM_same a g) (by decide) (em z) (Nat.le_of_ble_eq_true rfl) (fun p e s m args below meth c A Q hc hE hr => t_X9_faceComes (z := z) hc hr S v1 v2 v3 h)
theorem k_X9_faceComes : CalV RX9 yX9_faceComes cX9_faceComes 4 none rm_X9_faceComes 3 := ⟨q_225, q_226, q_5, q_227, by decide +kernel, rfl, rfl⟩
set_option maxHeartbeats 4000000 in
set_option maxRecDepth 100000 in
theorem t_X9_face {z : SZ × Int} (hc : Cx p R s m args c D (tysWM g) A (WM a g) cX9_face 4 RX9 2 46) (hr : Rti p l e R s m args below meth c Q D A (WM a g) cX9_face (em z.1, Int32.ofInt z.2)) : ∀ (S : SZ) (v1 : Int) (v2 : Int) (v3 : Int), f_X9_face S v1 v2 v3 = some z → Go p l e R s m args below meth c Q D A (WM a g) 4 (em S) 0 [(0, .ref (a 0)), (1, .int (Int32.ofInt v1)), (2, .int (Int32.ofInt v2)), (3, .int (Int32.ofInt v3))] [] := by
  obtain ⟨⟨hx, hb, hml, hown, hts⟩, -, -, -, hnf, hno⟩ := id hc
  intro S v1 v2 v3 h H locs ls hP hS hl
  rw [f_X9_face] at h
  replace hl : lv_has ls 4 [(0, .ref (a 0)), (1, .int (Int32.ofInt v1)), (2, .int (Int32.ofInt v2)), (3, .int (Int32.ofInt v3))] := hl
  refine lv_aload_n hx hb dX9_face_0 rfl (lv_at hl 0 rfl) ?_
  refine lv_iload_n hx hb dX9_face_1 rfl (lv_at hl 1 rfl) ?_
  obtain ⟨S1, x3, hk2, h⟩ := ob2_at h
  refine cl_Vi (As := [.int (Int32.ofInt v1)]) (rest := []) hc k_X9_isPoint q_208 (c_X9_isPoint hk2) hP hS (WM_0 a g (em S)) rfl rfl rfl hl (Nat.le_of_ble_eq_true rfl) dX9_face_2 (Nat.le_of_ble_eq_true rfl) (Nat.le_of_ble_eq_true rfl) rfl (fun H locs hP hS => ?_)
  obtain ⟨h4, h⟩ := chk_at h
  refine z_if_eq (tgt := 24) hx hb h4 dX9_face_5 (by decide) (fun hq => ?_) (fun hq => ?_)
  · replace h := if_yes hq h
    refine lv_iconst (v := Int32.ofInt (-1 : Int)) hx hb dX9_face_24 (by decide) ?_
    obtain rfl := Option.some.inj h
    exact hr _ _ _ _ dX9_face_25 hP hS
  · replace h := if_no hq h
    refine lv_aload_n hx hb dX9_face_8 rfl (lv_at hl 0 rfl) ?_
    refine lv_iload_n hx hb dX9_face_9 rfl (lv_at hl 2 rfl) ?_
    obtain ⟨S5, x7, hk6, h⟩ := ob2_at h
    refine cl_Vi (As := [.int (Int32.ofInt v2)]) (rest := []) hc k_X9_isPoint q_208 (c_X9_isPoint hk6) hP hS (WM_0 a g (em S1)) rfl rfl rfl hl (Nat.le_of_ble_eq_true rfl) dX9_face_10 (Nat.le_of_ble_eq_true rfl) (Nat.le_of_ble_eq_true rfl) rfl (fun H locs hP hS => ?_)
    obtain ⟨h8, h⟩ := chk_at h
    refine z_if_eq (tgt := 24) hx hb h8 dX9_face_13 (by decide) (fun hq => ?_) (fun hq => ?_)
    · replace h := if_yes hq h
      refine lv_iconst (v := Int32.ofInt (-1 : Int)) hx hb dX9_face_24 (by decide) ?_
      obtain rfl := Option.some.inj h
      exact hr _ _ _ _ dX9_face_25 hP hS
    · replace h := if_no hq h
      refine lv_aload_n hx hb dX9_face_16 rfl (lv_at hl 0 rfl) ?_
      refine lv_iload_n hx hb dX9_face_17 rfl (lv_at hl 3 rfl) ?_
      obtain ⟨S9, x11, hk10, h⟩ := ob2_at h
      refine cl_Vi (As := [.int (Int32.ofInt v3)]) (rest := []) hc k_X9_isPoint q_208 (c_X9_isPoint hk10) hP hS (WM_0 a g (em S5)) rfl rfl rfl hl (Nat.le_of_ble_eq_true rfl) dX9_face_18 (Nat.le_of_ble_eq_true rfl) (Nat.le_of_ble_eq_true rfl) rfl (fun H locs hP hS => ?_)
      obtain ⟨h12, h⟩ := chk_at h
      refine z_if_ne (tgt := 26) hx hb h12 dX9_face_21 (by decide) (fun hq => ?_) (fun hq => ?_)
      · replace h := if_no hq h
        refine lv_aload_n hx hb dX9_face_26 rfl (lv_at hl 0 rfl) ?_
        refine lv_iload_n hx hb dX9_face_27 rfl (lv_at hl 1 rfl) ?_
        refine lv_iload_n hx hb dX9_face_28 rfl (lv_at hl 2 rfl) ?_
        refine lv_iload_n hx hb dX9_face_29 rfl (lv_at hl 3 rfl) ?_
        obtain ⟨S13, x15, hk14, h⟩ := ob2_at h
        refine cl_Vi (As := [.int (Int32.ofInt v1), .int (Int32.ofInt v2), .int (Int32.ofInt v3)]) (rest := []) hc k_X9_isStraight q_212 (c_X9_isStraight hk14) hP hS (WM_0 a g (em S9)) rfl rfl rfl hl (Nat.le_of_ble_eq_true rfl) dX9_face_30 (Nat.le_of_ble_eq_true rfl) (Nat.le_of_ble_eq_true rfl) rfl (fun H locs hP hS => ?_)
        obtain ⟨h16, h⟩ := chk_at h
        refine z_if_ne (tgt := 46) hx hb h16 dX9_face_33 (by decide) (fun hq => ?_) (fun hq => ?_)
        · replace h := if_no hq h
          refine lv_bipush (v := Int32.ofInt (-3 : Int)) hx hb dX9_face_46 (by decide) ?_
          obtain rfl := Option.some.inj h
          exact hr _ _ _ _ dX9_face_48 hP hS
        · replace h := if_yes hq h
          refine lv_aload_n hx hb dX9_face_36 rfl (lv_at hl 0 rfl) ?_
          refine lv_iload_n hx hb dX9_face_37 rfl (lv_at hl 1 rfl) ?_
          refine lv_iload_n hx hb dX9_face_38 rfl (lv_at hl 2 rfl) ?_
          refine lv_iload_n hx hb dX9_face_39 rfl (lv_at hl 3 rfl) ?_
          obtain ⟨S17, x19, hk18, h⟩ := ob2_at h
          refine cl_Vi (As := [.int (Int32.ofInt v1), .int (Int32.ofInt v2), .int (Int32.ofInt v3)]) (rest := []) hc k_X9_isFaceOf q_216 (c_X9_isFaceOf hk18) hP hS (WM_0 a g (em S13)) rfl rfl rfl hl (Nat.le_of_ble_eq_true rfl) dX9_face_40 (Nat.le_of_ble_eq_true rfl) (Nat.le_of_ble_eq_true rfl) rfl (fun H locs hP hS => ?_)
          obtain ⟨h20, h⟩ := chk_at h
          refine z_if_eq (tgt := 49) hx hb h20 dX9_face_43 (by decide) (fun hq => ?_) (fun hq => ?_)
          · replace h := if_yes hq h
            refine lv_aload_n hx hb dX9_face_49 rfl (lv_at hl 0 rfl) ?_
            refine gzWM_HiddenEdgesModel_faces hc hP q_207 dX9_face_50 ?_
            refine lv_bipush (v := Int32.ofInt (24 : Int)) hx hb dX9_face_53 (by decide) ?_
            obtain ⟨h21, h⟩ := chk_at h
            refine z_icmp_ne (tgt := 61) hx hb h21 (by decide) dX9_face_55 (by decide) (fun hq => ?_) (fun hq => ?_)
            · replace h := if_no hq h
              refine lv_aload_n hx hb dX9_face_61 rfl (lv_at hl 0 rfl) ?_
              refine lv_iload_n hx hb dX9_face_62 rfl (lv_at hl 1 rfl) ?_
              refine lv_iload_n hx hb dX9_face_63 rfl (lv_at hl 2 rfl) ?_
              refine lv_iload_n hx hb dX9_face_64 rfl (lv_at hl 3 rfl) ?_
              obtain ⟨S22, hk23, h⟩ := ob1_at h
              refine cl_Vv (As := [.int (Int32.ofInt v1), .int (Int32.ofInt v2), .int (Int32.ofInt v3)]) (rest := []) hc k_X9_faceComes q_224 (c_X9_faceComes hk23) hP hS (WM_0 a g (em S17)) rfl rfl rfl hl (Nat.le_of_ble_eq_true rfl) dX9_face_65 (Nat.le_of_ble_eq_true rfl) (Nat.le_of_ble_eq_true rfl) rfl (fun H locs hP hS => ?_)
              refine lv_aload_n hx hb dX9_face_68 rfl (lv_at hl 0 rfl) ?_
              refine gzWM_HiddenEdgesModel_faces hc hP q_207 dX9_face_69 ?_
              refine lv_iconst (v := Int32.ofInt (1 : Int)) hx hb dX9_face_72 (by decide) ?_
              refine z_isub hx hb dX9_face_73 ?_
              obtain rfl := Option.some.inj h
              exact hr _ _ _ _ dX9_face_74 hP hS
            · replace h := if_yes hq h
              refine lv_bipush (v := Int32.ofInt (-4 : Int)) hx hb dX9_face_58 (by decide) ?_
              obtain rfl := Option.some.inj h
              exact hr _ _ _ _ dX9_face_60 hP hS
          · replace h := if_no hq h
            refine lv_bipush (v := Int32.ofInt (-3 : Int)) hx hb dX9_face_46 (by decide) ?_
            obtain rfl := Option.some.inj h
            exact hr _ _ _ _ dX9_face_48 hP hS
      · replace h := if_yes hq h
        refine lv_iconst (v := Int32.ofInt (-1 : Int)) hx hb dX9_face_24 (by decide) ?_
        obtain rfl := Option.some.inj h
        exact hr _ _ _ _ dX9_face_25 hP hS
abbrev rm_X9_face : Room := { frames := 2, cells := 0, slots := 0, locals := 46 }
theorem c_X9_face {l : Launch} {D : va_G} {a : Nat → Nat} {g : Nat → ClassId} {S : SZ} {v1 : Int} {v2 : Int} {v3 : Int} {Z1 : SZ} {r1 : Int} (h : f_X9_face S v1 v2 v3 = some (Z1, r1)) : MetI l D (tysWM g) (WM a g) E0 yX9_face cX9_face 4 (some .int) rm_X9_face [.ref (a 0), .int (Int32.ofInt v1), .int (Int32.ofInt v2), .int (Int32.ofInt v3)] (em S) (em Z1, Int32.ofInt r1) := mk_i (WM_same a g) (by decide) (em Z1, Int32.ofInt r1) (Nat.le_of_ble_eq_true rfl) (fun p e s m args below meth c A Q hc hE hr => t_X9_face (z := (Z1, r1)) hc hr S v1 v2 v3 h)
theorem k_X9_face : CalV RX9 yX9_face cX9_face 4 (some .int) rm_X9_face 3 := ⟨q_204, q_205, q_5, q_206, by decide +kernel, rfl, rfl⟩
set_option maxHeartbeats 4000000 in
set_option maxRecDepth 100000 in
theorem t_X9_isWire_p30 {z : SZ × Int} (hc : Cx p R s m args c D (tysWM g) A (WM a g) cX9_isWire 4 RX9 0 0) (hr : Rtz p l e R s m args below meth c Q D A (WM a g) cX9_isWire (em z.1, Int32.ofInt z.2)) {k2 : SZ → Int → Int → Int → Option (SZ × Int)} (K2 : ∀ (S : SZ) (v1 : Int) (v2 : Int) (v3 : Int), k2 S v1 v2 v3 = some z → Go p l e R s m args below meth c Q D A (WM a g) 4 (em S) 2 [(0, .ref (a 0)), (1, .int (Int32.ofInt v1)), (2, .int (Int32.ofInt v2)), (3, .int (Int32.ofInt v3))] []) : ∀ (S : SZ) (v1 : Int) (v2 : Int) (v3 : Int), f_X9_isWire_p30 k2 S v1 v2 v3 = some z → Go p l e R s m args below meth c Q D A (WM a g) 4 (em S) 30 [(0, .ref (a 0)), (1, .int (Int32.ofInt v1)), (2, .int (Int32.ofInt v2)), (3, .int (Int32.ofInt v3))] [] := by
  obtain ⟨⟨hx, hb, hml, hown, hts⟩, -, -, -, hnf, hno⟩ := id hc
  intro S v1 v2 v3 h H locs ls hP hS hl
  rw [f_X9_isWire_p30] at h
  refine lv_aload_n hx hb dX9_isWire_30 rfl (lv_at hl 0 rfl) ?_
  refine gfWM_HiddenEdgesModel_wireOne hc hP q_103 dX9_isWire_31 ?_
  refine lv_iload_n hx hb dX9_isWire_34 rfl (lv_at hl 3 rfl) ?_
  obtain ⟨h1, h⟩ := chk_at h
  refine azWM_HiddenEdgesModel_wireOne hc hP h1 dX9_isWire_35 ?_
  refine lv_iload_n hx hb dX9_isWire_36 rfl (lv_at hl 2 rfl) ?_
  obtain ⟨h2, h⟩ := chk_at h
  obtain ⟨h3, h⟩ := chk_at h
  refine z_icmp_ne (tgt := 52) hx hb h2 h3 dX9_isWire_37 (by decide) (fun hq => ?_) (fun hq => ?_)
  · replace h := if_no hq h
    obtain ⟨x4, ex4⟩ : ∃ y : Int, y = v3 + (1 : Int) := ⟨_, rfl⟩
    replace h := olet_at ex4 h
    refine lv_iinc (v := Int32.ofInt x4) (lv' := [(3, .int (Int32.ofInt x4)), (0, .ref (a 0)), (1, .int (Int32.ofInt v1)), (2, .int (Int32.ofInt v2))]) hx hb dX9_isWire_52 hl (k := 3) rfl (by rw [ex4, Int32.ofInt_add]) (by decide) rfl (fun ls hl => ?_)
    refine lv_goto (tgt := 2) hx hb dX9_isWire_55 (by decide) ?_
    exact K2 S v1 v2 x4 h H locs ls hP hS (lv_sub hl [1, 2, 3, 0] rfl)
  · replace h := if_yes hq h
    refine lv_aload_n hx hb dX9_isWire_40 rfl (lv_at hl 0 rfl) ?_
    refine gfWM_HiddenEdgesModel_wireOther hc hP q_104 dX9_isWire_41 ?_
    refine lv_iload_n hx hb dX9_isWire_44 rfl (lv_at hl 3 rfl) ?_
    refine azWM_HiddenEdgesModel_wireOther hc hP h1 dX9_isWire_45 ?_
    refine lv_iload_n hx hb dX9_isWire_46 rfl (lv_at hl 1 rfl) ?_
    obtain ⟨h5, h⟩ := chk_at h
    obtain ⟨h6, h⟩ := chk_at h
    refine z_icmp_ne (tgt := 52) hx hb h5 h6 dX9_isWire_47 (by decide) (fun hq => ?_) (fun hq => ?_)
    · replace h := if_no hq h
      obtain ⟨x7, ex7⟩ : ∃ y : Int, y = v3 + (1 : Int) := ⟨_, rfl⟩
      replace h := olet_at ex7 h
      refine lv_iinc (v := Int32.ofInt x7) (lv' := [(3, .int (Int32.ofInt x7)), (0, .ref (a 0)), (1, .int (Int32.ofInt v1)), (2, .int (Int32.ofInt v2))]) hx hb dX9_isWire_52 hl (k := 3) rfl (by rw [ex7, Int32.ofInt_add]) (by decide) rfl (fun ls hl => ?_)
      refine lv_goto (tgt := 2) hx hb dX9_isWire_55 (by decide) ?_
      exact K2 S v1 v2 x7 h H locs ls hP hS (lv_sub hl [1, 2, 3, 0] rfl)
    · replace h := if_yes hq h
      refine lv_iconst (v := Int32.ofInt (1 : Int)) hx hb dX9_isWire_50 (by decide) ?_
      obtain rfl := Option.some.inj h
      exact hr (bit_of (Or.inr rfl)) _ _ _ _ dX9_isWire_51 hP hS
set_option maxHeartbeats 4000000 in
set_option maxRecDepth 100000 in
theorem t_X9_isWire_p2 {z : SZ × Int} (hc : Cx p R s m args c D (tysWM g) A (WM a g) cX9_isWire 4 RX9 0 0) (hr : Rtz p l e R s m args below meth c Q D A (WM a g) cX9_isWire (em z.1, Int32.ofInt z.2)) : ∀ (fu : Nat) (S : SZ) (v1 : Int) (v2 : Int) (v3 : Int), f_X9_isWire_p2 fu S v1 v2 v3 = some z → Go p l e R s m args below meth c Q D A (WM a g) 4 (em S) 2 [(0, .ref (a 0)), (1, .int (Int32.ofInt v1)), (2, .int (Int32.ofInt v2)), (3, .int (Int32.ofInt v3))] [] := by
  obtain ⟨⟨hx, hb, hml, hown, hts⟩, -, -, -, hnf, hno⟩ := id hc
  intro fu
  induction fu with
  | zero =>
    intro S v1 v2 v3 h
    rw [f_X9_isWire_p2] at h
    cases h
  | succ fu ih =>
    intro S v1 v2 v3 h H locs ls hP hS hl
    rw [f_X9_isWire_p2] at h
    refine lv_iload_n hx hb dX9_isWire_2 rfl (lv_at hl 3 rfl) ?_
    refine lv_aload_n hx hb dX9_isWire_3 rfl (lv_at hl 0 rfl) ?_
    refine gzWM_HiddenEdgesModel_wires hc hP q_246 dX9_isWire_4 ?_
    obtain ⟨h1, h⟩ := chk_at h
    obtain ⟨h2, h⟩ := chk_at h
    refine z_icmp_ge (tgt := 58) hx hb h1 h2 dX9_isWire_7 (by decide) (fun hq => ?_) (fun hq => ?_)
    · replace h := if_yes hq h
      refine lv_iconst (v := Int32.ofInt (0 : Int)) hx hb dX9_isWire_58 (by decide) ?_
      obtain rfl := Option.some.inj h
      exact hr (bit_of (Or.inl rfl)) _ _ _ _ dX9_isWire_59 hP hS
    · replace h := if_no hq h
      refine lv_aload_n hx hb dX9_isWire_10 rfl (lv_at hl 0 rfl) ?_
      refine gfWM_HiddenEdgesModel_wireOne hc hP q_103 dX9_isWire_11 ?_
      refine lv_iload_n hx hb dX9_isWire_14 rfl (lv_at hl 3 rfl) ?_
      obtain ⟨h3, h⟩ := chk_at h
      refine azWM_HiddenEdgesModel_wireOne hc hP h3 dX9_isWire_15 ?_
      refine lv_iload_n hx hb dX9_isWire_16 rfl (lv_at hl 1 rfl) ?_
      obtain ⟨h4, h⟩ := chk_at h
      obtain ⟨h5, h⟩ := chk_at h
      refine z_icmp_ne (tgt := 30) hx hb h4 h5 dX9_isWire_17 (by decide) (fun hq => ?_) (fun hq => ?_)
      · replace h := if_no hq h
        exact t_X9_isWire_p30 hc hr ih S v1 v2 v3 h H locs ls hP hS (lv_sub hl [0, 1, 2, 3] rfl)
      · replace h := if_yes hq h
        refine lv_aload_n hx hb dX9_isWire_20 rfl (lv_at hl 0 rfl) ?_
        refine gfWM_HiddenEdgesModel_wireOther hc hP q_104 dX9_isWire_21 ?_
        refine lv_iload_n hx hb dX9_isWire_24 rfl (lv_at hl 3 rfl) ?_
        refine azWM_HiddenEdgesModel_wireOther hc hP h3 dX9_isWire_25 ?_
        refine lv_iload_n hx hb dX9_isWire_26 rfl (lv_at hl 2 rfl) ?_
        obtain ⟨h6, h⟩ := chk_at h
        obtain ⟨h7, h⟩ := chk_at h
        refine z_icmp_eq (tgt := 50) hx hb h6 h7 dX9_isWire_27 (by decide) (fun hq => ?_) (fun hq => ?_)
        · replace h := if_yes hq h
          refine lv_iconst (v := Int32.ofInt (1 : Int)) hx hb dX9_isWire_50 (by decide) ?_
          obtain rfl := Option.some.inj h
          exact hr (bit_of (Or.inr rfl)) _ _ _ _ dX9_isWire_51 hP hS
        · replace h := if_no hq h
          exact t_X9_isWire_p30 hc hr ih S v1 v2 v3 h H locs ls hP hS (lv_sub hl [0, 1, 2, 3] rfl)
set_option maxHeartbeats 4000000 in
set_option maxRecDepth 100000 in
theorem t_X9_isWire {z : SZ × Int} (hc : Cx p R s m args c D (tysWM g) A (WM a g) cX9_isWire 4 RX9 0 0) (hr : Rtz p l e R s m args below meth c Q D A (WM a g) cX9_isWire (em z.1, Int32.ofInt z.2)) : ∀ (S : SZ) (v1 : Int) (v2 : Int), f_X9_isWire S v1 v2 = some z → Go p l e R s m args below meth c Q D A (WM a g) 4 (em S) 0 [(0, .ref (a 0)), (1, .int (Int32.ofInt v1)), (2, .int (Int32.ofInt v2))] [] := by
  obtain ⟨⟨hx, hb, hml, hown, hts⟩, -, -, -, hnf, hno⟩ := id hc
  intro S v1 v2 h H locs ls hP hS hl
  rw [f_X9_isWire] at h
  replace hl : lv_has ls 4 [(0, .ref (a 0)), (1, .int (Int32.ofInt v1)), (2, .int (Int32.ofInt v2))] := hl
  refine lv_iconst (v := Int32.ofInt (0 : Int)) hx hb dX9_isWire_0 (by decide) ?_
  refine lv_istore_n (lv' := [(3, .int (Int32.ofInt (0 : Int))), (0, .ref (a 0)), (1, .int (Int32.ofInt v1)), (2, .int (Int32.ofInt v2))]) hx hb dX9_isWire_1 rfl hl (by decide) rfl (fun ls hl => ?_)
  exact t_X9_isWire_p2 hc hr FU S v1 v2 (0 : Int) h H locs ls hP hS (lv_sub hl [1, 2, 3, 0] rfl)
abbrev rm_X9_isWire : Room := { frames := 0, cells := 0, slots := 0, locals := 0 }
theorem c_X9_isWire {l : Launch} {D : va_G} {a : Nat → Nat} {g : Nat → ClassId} {S : SZ} {v1 : Int} {v2 : Int} {Z1 : SZ} {r1 : Int} (h : f_X9_isWire S v1 v2 = some (Z1, r1)) : MetI l D (tysWM g) (WM a g) E0 yX9_isWire cX9_isWire 4 (some .boolean) rm_X9_isWire [.ref (a 0), .int (Int32.ofInt v1), .int (Int32.ofInt v2)] (em S) (em Z1, Int32.ofInt r1) := mk_z (WM_same a g) (by decide) (em Z1, Int32.ofInt r1) (Nat.le_of_ble_eq_true rfl) (fun p e s m args below meth c A Q hc hE hr => t_X9_isWire (z := (Z1, r1)) hc hr S v1 v2 h)
theorem k_X9_isWire : CalV RX9 yX9_isWire cX9_isWire 4 (some .boolean) rm_X9_isWire 2 := ⟨q_248, q_249, q_5, q_250, by decide +kernel, rfl, rfl⟩
set_option maxHeartbeats 4000000 in
set_option maxRecDepth 100000 in
theorem t_X9_wire {z : SZ × Int} (hc : Cx p R s m args c D (tysWM g) A (WM a g) cX9_wire 3 RX9 2 43) (hr : Rti p l e R s m args below meth c Q D A (WM a g) cX9_wire (em z.1, Int32.ofInt z.2)) : ∀ (S : SZ) (v1 : Int) (v2 : Int), f_X9_wire S v1 v2 = some z → Go p l e R s m args below meth c Q D A (WM a g) 3 (em S) 0 [(0, .ref (a 0)), (1, .int (Int32.ofInt v1)), (2, .int (Int32.ofInt v2))] [] := by
  obtain ⟨⟨hx, hb, hml, hown, hts⟩, -, -, -, hnf, hno⟩ := id hc
  intro S v1 v2 h H locs ls hP hS hl
  rw [f_X9_wire] at h
  replace hl : lv_has ls 3 [(0, .ref (a 0)), (1, .int (Int32.ofInt v1)), (2, .int (Int32.ofInt v2))] := hl
  refine lv_aload_n hx hb dX9_wire_0 rfl (lv_at hl 0 rfl) ?_
  refine lv_iload_n hx hb dX9_wire_1 rfl (lv_at hl 1 rfl) ?_
  obtain ⟨S1, x3, hk2, h⟩ := ob2_at h
  refine cl_Vi (As := [.int (Int32.ofInt v1)]) (rest := []) hc k_X9_isPoint q_208 (c_X9_isPoint hk2) hP hS (WM_0 a g (em S)) rfl rfl rfl hl (Nat.le_of_ble_eq_true rfl) dX9_wire_2 (Nat.le_of_ble_eq_true rfl) (Nat.le_of_ble_eq_true rfl) rfl (fun H locs hP hS => ?_)
  obtain ⟨h4, h⟩ := chk_at h
  refine z_if_eq (tgt := 16) hx hb h4 dX9_wire_5 (by decide) (fun hq => ?_) (fun hq => ?_)
  · replace h := if_yes hq h
    refine lv_iconst (v := Int32.ofInt (-1 : Int)) hx hb dX9_wire_16 (by decide) ?_
    obtain rfl := Option.some.inj h
    exact hr _ _ _ _ dX9_wire_17 hP hS
  · replace h := if_no hq h
    refine lv_aload_n hx hb dX9_wire_8 rfl (lv_at hl 0 rfl) ?_
    refine lv_iload_n hx hb dX9_wire_9 rfl (lv_at hl 2 rfl) ?_
    obtain ⟨S5, x7, hk6, h⟩ := ob2_at h
    refine cl_Vi (As := [.int (Int32.ofInt v2)]) (rest := []) hc k_X9_isPoint q_208 (c_X9_isPoint hk6) hP hS (WM_0 a g (em S1)) rfl rfl rfl hl (Nat.le_of_ble_eq_true rfl) dX9_wire_10 (Nat.le_of_ble_eq_true rfl) (Nat.le_of_ble_eq_true rfl) rfl (fun H locs hP hS => ?_)
    obtain ⟨h8, h⟩ := chk_at h
    refine z_if_ne (tgt := 18) hx hb h8 dX9_wire_13 (by decide) (fun hq => ?_) (fun hq => ?_)
    · replace h := if_no hq h
      refine lv_iload_n hx hb dX9_wire_18 rfl (lv_at hl 1 rfl) ?_
      refine lv_iload_n hx hb dX9_wire_19 rfl (lv_at hl 2 rfl) ?_
      obtain ⟨h9, h⟩ := chk_at h
      obtain ⟨h10, h⟩ := chk_at h
      refine z_icmp_eq (tgt := 32) hx hb h9 h10 dX9_wire_20 (by decide) (fun hq => ?_) (fun hq => ?_)
      · replace h := if_yes hq h
        refine lv_bipush (v := Int32.ofInt (-3 : Int)) hx hb dX9_wire_32 (by decide) ?_
        obtain rfl := Option.some.inj h
        exact hr _ _ _ _ dX9_wire_34 hP hS
      · replace h := if_no hq h
        refine lv_aload_n hx hb dX9_wire_23 rfl (lv_at hl 0 rfl) ?_
        refine lv_iload_n hx hb dX9_wire_24 rfl (lv_at hl 1 rfl) ?_
        refine lv_iload_n hx hb dX9_wire_25 rfl (lv_at hl 2 rfl) ?_
        obtain ⟨S11, x13, hk12, h⟩ := ob2_at h
        refine cl_Vi (As := [.int (Int32.ofInt v1), .int (Int32.ofInt v2)]) (rest := []) hc k_X9_isWire q_247 (c_X9_isWire hk12) hP hS (WM_0 a g (em S5)) rfl rfl rfl hl (Nat.le_of_ble_eq_true rfl) dX9_wire_26 (Nat.le_of_ble_eq_true rfl) (Nat.le_of_ble_eq_true rfl) rfl (fun H locs hP hS => ?_)
        obtain ⟨h14, h⟩ := chk_at h
        refine z_if_eq (tgt := 35) hx hb h14 dX9_wire_29 (by decide) (fun hq => ?_) (fun hq => ?_)
        · replace h := if_yes hq h
          refine lv_aload_n hx hb dX9_wire_35 rfl (lv_at hl 0 rfl) ?_
          refine gzWM_HiddenEdgesModel_wires hc hP q_246 dX9_wire_36 ?_
          refine lv_bipush (v := Int32.ofInt (8 : Int)) hx hb dX9_wire_39 (by decide) ?_
          obtain ⟨h15, h⟩ := chk_at h
          refine z_icmp_ne (tgt := 47) hx hb h15 (by decide) dX9_wire_41 (by decide) (fun hq => ?_) (fun hq => ?_)
          · replace h := if_no hq h
            refine lv_aload_n hx hb dX9_wire_47 rfl (lv_at hl 0 rfl) ?_
            refine gfWM_HiddenEdgesModel_wireOne hc hP q_103 dX9_wire_48 ?_
            refine lv_aload_n hx hb dX9_wire_51 rfl (lv_at hl 0 rfl) ?_
            refine gzWM_HiddenEdgesModel_wires hc hP q_246 dX9_wire_52 ?_
            refine lv_iload_n hx hb dX9_wire_55 rfl (lv_at hl 1 rfl) ?_
            obtain ⟨h16, h⟩ := chk_at h
            refine szWM_HiddenEdgesModel_wireOne hc hP hS h16 dX9_wire_56 (fun H locs hP hS => ?_)
            obtain ⟨S17, eS17⟩ : ∃ z, z = ua S11 4 ((zi S11 2)).toNat v1 := ⟨_, rfl⟩
            replace h := olet_at eS17 h
            rw [← eS17] at hP
            refine lv_aload_n hx hb dX9_wire_57 rfl (lv_at hl 0 rfl) ?_
            refine gfWM_HiddenEdgesModel_wireOther hc hP q_104 dX9_wire_58 ?_
            refine lv_aload_n hx hb dX9_wire_61 rfl (lv_at hl 0 rfl) ?_
            refine gzWM_HiddenEdgesModel_wires hc hP q_246 dX9_wire_62 ?_
            refine lv_iload_n hx hb dX9_wire_65 rfl (lv_at hl 2 rfl) ?_
            obtain ⟨h18, h⟩ := chk_at h
            refine szWM_HiddenEdgesModel_wireOther hc hP hS h18 dX9_wire_66 (fun H locs hP hS => ?_)
            obtain ⟨S19, eS19⟩ : ∃ z, z = ua S17 5 ((zi S17 2)).toNat v2 := ⟨_, rfl⟩
            replace h := olet_at eS19 h
            rw [← eS19] at hP
            refine lv_aload_n hx hb dX9_wire_67 rfl (lv_at hl 0 rfl) ?_
            refine lv_dup hx hb dX9_wire_68 rfl ?_
            refine gzWM_HiddenEdgesModel_wires hc hP q_246 dX9_wire_69 ?_
            refine lv_iconst (v := Int32.ofInt (1 : Int)) hx hb dX9_wire_72 (by decide) ?_
            refine z_iadd hx hb dX9_wire_73 ?_
            refine pzWM_HiddenEdgesModel_wires hc hP hS q_246 dX9_wire_74 (fun H locs hP hS => ?_)
            obtain ⟨S20, eS20⟩ : ∃ z, z = ui S19 2 ((zi S19 2) + (1 : Int)) := ⟨_, rfl⟩
            replace h := olet_at eS20 h
            rw [← eS20] at hP
            refine lv_aload_n hx hb dX9_wire_77 rfl (lv_at hl 0 rfl) ?_
            refine lv_iconst (v := Int32.ofInt (0 : Int)) hx hb dX9_wire_78 (by decide) ?_
            refine pzWM_HiddenEdgesModel_isFound hc hP hS (Or.inl rfl) q_169 dX9_wire_79 (fun H locs hP hS => ?_)
            obtain ⟨S21, eS21⟩ : ∃ z, z = ui S20 6 (0 : Int) := ⟨_, rfl⟩
            replace h := olet_at eS21 h
            rw [← eS21] at hP
            refine lv_aload_n hx hb dX9_wire_82 rfl (lv_at hl 0 rfl) ?_
            refine gzWM_HiddenEdgesModel_wires hc hP q_246 dX9_wire_83 ?_
            obtain rfl := Option.some.inj h
            exact hr _ _ _ _ dX9_wire_86 hP hS
          · replace h := if_yes hq h
            refine lv_bipush (v := Int32.ofInt (-4 : Int)) hx hb dX9_wire_44 (by decide) ?_
            obtain rfl := Option.some.inj h
            exact hr _ _ _ _ dX9_wire_46 hP hS
        · replace h := if_no hq h
          refine lv_bipush (v := Int32.ofInt (-3 : Int)) hx hb dX9_wire_32 (by decide) ?_
          obtain rfl := Option.some.inj h
          exact hr _ _ _ _ dX9_wire_34 hP hS
    · replace h := if_yes hq h
      refine lv_iconst (v := Int32.ofInt (-1 : Int)) hx hb dX9_wire_16 (by decide) ?_
      obtain rfl := Option.some.inj h
      exact hr _ _ _ _ dX9_wire_17 hP hS
abbrev rm_X9_wire : Room := { frames := 2, cells := 0, slots := 0, locals := 43 }
theorem c_X9_wire {l : Launch} {D : va_G} {a : Nat → Nat} {g : Nat → ClassId} {S : SZ} {v1 : Int} {v2 : Int} {Z1 : SZ} {r1 : Int} (h : f_X9_wire S v1 v2 = some (Z1, r1)) : MetI l D (tysWM g) (WM a g) E0 yX9_wire cX9_wire 3 (some .int) rm_X9_wire [.ref (a 0), .int (Int32.ofInt v1), .int (Int32.ofInt v2)] (em S) (em Z1, Int32.ofInt r1) := mk_i (WM_same a g) (by decide) (em Z1, Int32.ofInt r1) (Nat.le_of_ble_eq_true rfl) (fun p e s m args below meth c A Q hc hE hr => t_X9_wire (z := (Z1, r1)) hc hr S v1 v2 h)
theorem k_X9_wire : CalV RX9 yX9_wire cX9_wire 3 (some .int) rm_X9_wire 2 := ⟨q_243, q_244, q_5, q_245, by decide +kernel, rfl, rfl⟩
set_option maxHeartbeats 4000000 in
set_option maxRecDepth 100000 in
theorem t_X9_isBlockThere_p2 {z : SZ × Int} (hc : Cx p R s m args c D (tysWM g) A (WM a g) cX9_isBlockThere 5 RX9 2 46) (hr : Rtz p l e R s m args below meth c Q D A (WM a g) cX9_isBlockThere (em z.1, Int32.ofInt z.2)) : ∀ (fu : Nat) (S : SZ) (v1 : Int), f_X9_isBlockThere_p2 fu S v1 = some z → Go p l e R s m args below meth c Q D A (WM a g) 5 (em S) 2 [(0, .ref (a 0)), (1, .int (Int32.ofInt v1))] [] := by
  obtain ⟨⟨hx, hb, hml, hown, hts⟩, -, -, -, hnf, hno⟩ := id hc
  intro fu
  induction fu with
  | zero =>
    intro S v1 h
    rw [f_X9_isBlockThere_p2] at h
    cases h
  | succ fu ih =>
    intro S v1 h H locs ls hP hS hl
    rw [f_X9_isBlockThere_p2] at h
    refine lv_iload_n hx hb dX9_isBlockThere_2 rfl (lv_at hl 1 rfl) ?_
    refine lv_bipush (v := Int32.ofInt (12 : Int)) hx hb dX9_isBlockThere_3 (by decide) ?_
    obtain ⟨h1, h⟩ := chk_at h
    refine z_icmp_ge (tgt := 93) hx hb h1 (by decide) dX9_isBlockThere_5 (by decide) (fun hq => ?_) (fun hq => ?_)
    · replace h := if_yes hq h
      refine lv_iconst (v := Int32.ofInt (0 : Int)) hx hb dX9_isBlockThere_93 (by decide) ?_
      obtain rfl := Option.some.inj h
      exact hr (bit_of (Or.inl rfl)) _ _ _ _ dX9_isBlockThere_94 hP hS
    · replace h := if_no hq h
      refine lv_aload_n hx hb dX9_isBlockThere_8 rfl (lv_at hl 0 rfl) ?_
      refine gfWM_HiddenEdgesModel_blockPoint hc hP q_107 dX9_isBlockThere_9 ?_
      refine lv_aload_n hx hb dX9_isBlockThere_12 rfl (lv_at hl 0 rfl) ?_
      refine gfWM_HiddenEdgesModel_blockCorner hc hP q_106 dX9_isBlockThere_13 ?_
      refine lv_iconst (v := Int32.ofInt (3 : Int)) hx hb dX9_isBlockThere_16 (by decide) ?_
      refine lv_iload_n hx hb dX9_isBlockThere_17 rfl (lv_at hl 1 rfl) ?_
      refine z_imul hx hb dX9_isBlockThere_18 ?_
      obtain ⟨h2, h⟩ := chk_at h
      refine azWM_HiddenEdgesModel_blockCorner hc hP h2 dX9_isBlockThere_19 ?_
      obtain ⟨h3, h⟩ := chk_at h
      refine azWM_HiddenEdgesModel_blockPoint hc hP h3 dX9_isBlockThere_20 ?_
      refine z_topi (fun x4 ex4 => ?_)
      replace h := olet_at ex4 h
      refine lv_istore_n (lv' := [(2, .int (Int32.ofInt x4)), (0, .ref (a 0)), (1, .int (Int32.ofInt v1))]) hx hb dX9_isBlockThere_21 rfl hl (by decide) rfl (fun ls hl => ?_)
      refine lv_aload_n hx hb dX9_isBlockThere_22 rfl (lv_at hl 1 rfl) ?_
      refine gfWM_HiddenEdgesModel_blockPoint hc hP q_107 dX9_isBlockThere_23 ?_
      refine lv_aload_n hx hb dX9_isBlockThere_26 rfl (lv_at hl 1 rfl) ?_
      refine gfWM_HiddenEdgesModel_blockCorner hc hP q_106 dX9_isBlockThere_27 ?_
      refine lv_iconst (v := Int32.ofInt (3 : Int)) hx hb dX9_isBlockThere_30 (by decide) ?_
      refine lv_iload_n hx hb dX9_isBlockThere_31 rfl (lv_at hl 2 rfl) ?_
      refine z_imul hx hb dX9_isBlockThere_32 ?_
      refine lv_iconst (v := Int32.ofInt (1 : Int)) hx hb dX9_isBlockThere_33 (by decide) ?_
      refine z_iadd hx hb dX9_isBlockThere_34 ?_
      obtain ⟨h5, h⟩ := chk_at h
      refine azWM_HiddenEdgesModel_blockCorner hc hP h5 dX9_isBlockThere_35 ?_
      obtain ⟨h6, h⟩ := chk_at h
      refine azWM_HiddenEdgesModel_blockPoint hc hP h6 dX9_isBlockThere_36 ?_
      refine z_topi (fun x7 ex7 => ?_)
      replace h := olet_at ex7 h
      refine lv_istore_n (lv' := [(3, .int (Int32.ofInt x7)), (2, .int (Int32.ofInt x4)), (0, .ref (a 0)), (1, .int (Int32.ofInt v1))]) hx hb dX9_isBlockThere_37 rfl hl (by decide) rfl (fun ls hl => ?_)
      refine lv_aload_n hx hb dX9_isBlockThere_38 rfl (lv_at hl 2 rfl) ?_
      refine gfWM_HiddenEdgesModel_blockPoint hc hP q_107 dX9_isBlockThere_39 ?_
      refine lv_aload_n hx hb dX9_isBlockThere_42 rfl (lv_at hl 2 rfl) ?_
      refine gfWM_HiddenEdgesModel_blockCorner hc hP q_106 dX9_isBlockThere_43 ?_
      refine lv_iconst (v := Int32.ofInt (3 : Int)) hx hb dX9_isBlockThere_46 (by decide) ?_
      refine lv_iload_n hx hb dX9_isBlockThere_47 rfl (lv_at hl 3 rfl) ?_
      refine z_imul hx hb dX9_isBlockThere_48 ?_
      refine lv_iconst (v := Int32.ofInt (2 : Int)) hx hb dX9_isBlockThere_49 (by decide) ?_
      refine z_iadd hx hb dX9_isBlockThere_50 ?_
      obtain ⟨h8, h⟩ := chk_at h
      refine azWM_HiddenEdgesModel_blockCorner hc hP h8 dX9_isBlockThere_51 ?_
      obtain ⟨h9, h⟩ := chk_at h
      refine azWM_HiddenEdgesModel_blockPoint hc hP h9 dX9_isBlockThere_52 ?_
      refine z_topi (fun x10 ex10 => ?_)
      replace h := olet_at ex10 h
      refine lv_istore (lv' := [(4, .int (Int32.ofInt x10)), (3, .int (Int32.ofInt x7)), (2, .int (Int32.ofInt x4)), (0, .ref (a 0)), (1, .int (Int32.ofInt v1))]) hx hb dX9_isBlockThere_53 hl (by decide) rfl (fun ls hl => ?_)
      refine lv_iload_n hx hb dX9_isBlockThere_55 rfl (lv_at hl 2 rfl) ?_
      refine lv_bipush (v := Int32.ofInt (-9 : Int)) hx hb dX9_isBlockThere_56 (by decide) ?_
      obtain ⟨h11, h⟩ := chk_at h
      refine z_icmp_eq (tgt := 87) hx hb h11 (by decide) dX9_isBlockThere_58 (by decide) (fun hq => ?_) (fun hq => ?_)
      · replace h := if_yes hq h
        obtain ⟨x12, ex12⟩ : ∃ y : Int, y = v1 + (1 : Int) := ⟨_, rfl⟩
        replace h := olet_at ex12 h
        refine lv_iinc (v := Int32.ofInt x12) (lv' := [(1, .int (Int32.ofInt x12)), (4, .int (Int32.ofInt x10)), (3, .int (Int32.ofInt x7)), (2, .int (Int32.ofInt x4)), (0, .ref (a 0))]) hx hb dX9_isBlockThere_87 hl (k := 4) rfl (by rw [ex12, Int32.ofInt_add]) (by decide) rfl (fun ls hl => ?_)
        refine lv_goto (tgt := 2) hx hb dX9_isBlockThere_90 (by decide) ?_
        exact ih S x12 h H locs ls hP hS (lv_sub hl [4, 0] rfl)
      · replace h := if_no hq h
        refine lv_iload_n hx hb dX9_isBlockThere_61 rfl (lv_at hl 1 rfl) ?_
        refine lv_bipush (v := Int32.ofInt (-9 : Int)) hx hb dX9_isBlockThere_62 (by decide) ?_
        obtain ⟨h13, h⟩ := chk_at h
        refine z_icmp_eq (tgt := 87) hx hb h13 (by decide) dX9_isBlockThere_64 (by decide) (fun hq => ?_) (fun hq => ?_)
        · replace h := if_yes hq h
          obtain ⟨x14, ex14⟩ : ∃ y : Int, y = v1 + (1 : Int) := ⟨_, rfl⟩
          replace h := olet_at ex14 h
          refine lv_iinc (v := Int32.ofInt x14) (lv' := [(1, .int (Int32.ofInt x14)), (4, .int (Int32.ofInt x10)), (3, .int (Int32.ofInt x7)), (2, .int (Int32.ofInt x4)), (0, .ref (a 0))]) hx hb dX9_isBlockThere_87 hl (k := 4) rfl (by rw [ex14, Int32.ofInt_add]) (by decide) rfl (fun ls hl => ?_)
          refine lv_goto (tgt := 2) hx hb dX9_isBlockThere_90 (by decide) ?_
          exact ih S x14 h H locs ls hP hS (lv_sub hl [4, 0] rfl)
        · replace h := if_no hq h
          refine lv_iload hx hb dX9_isBlockThere_67 (lv_at hl 0 rfl) ?_
          refine lv_bipush (v := Int32.ofInt (-9 : Int)) hx hb dX9_isBlockThere_69 (by decide) ?_
          obtain ⟨h15, h⟩ := chk_at h
          refine z_icmp_eq (tgt := 87) hx hb h15 (by decide) dX9_isBlockThere_71 (by decide) (fun hq => ?_) (fun hq => ?_)
          · replace h := if_yes hq h
            obtain ⟨x16, ex16⟩ : ∃ y : Int, y = v1 + (1 : Int) := ⟨_, rfl⟩
            replace h := olet_at ex16 h
            refine lv_iinc (v := Int32.ofInt x16) (lv' := [(1, .int (Int32.ofInt x16)), (4, .int (Int32.ofInt x10)), (3, .int (Int32.ofInt x7)), (2, .int (Int32.ofInt x4)), (0, .ref (a 0))]) hx hb dX9_isBlockThere_87 hl (k := 4) rfl (by rw [ex16, Int32.ofInt_add]) (by decide) rfl (fun ls hl => ?_)
            refine lv_goto (tgt := 2) hx hb dX9_isBlockThere_90 (by decide) ?_
            exact ih S x16 h H locs ls hP hS (lv_sub hl [4, 0] rfl)
          · replace h := if_no hq h
            refine lv_aload_n hx hb dX9_isBlockThere_74 rfl (lv_at hl 3 rfl) ?_
            refine lv_iload_n hx hb dX9_isBlockThere_75 rfl (lv_at hl 2 rfl) ?_
            refine lv_iload_n hx hb dX9_isBlockThere_76 rfl (lv_at hl 1 rfl) ?_
            refine lv_iload hx hb dX9_isBlockThere_77 (lv_at hl 0 rfl) ?_
            obtain ⟨S17, x19, hk18, h⟩ := ob2_at h
            refine cl_Vi (As := [.int (Int32.ofInt x4), .int (Int32.ofInt x7), .int (Int32.ofInt x10)]) (rest := []) hc k_X9_isFaceOf q_216 (c_X9_isFaceOf hk18) hP hS (WM_0 a g (em S)) rfl rfl rfl hl (Nat.le_of_ble_eq_true rfl) dX9_isBlockThere_79 (Nat.le_of_ble_eq_true rfl) (Nat.le_of_ble_eq_true rfl) rfl (fun H locs hP hS => ?_)
            obtain ⟨h20, h⟩ := chk_at h
            refine z_if_eq (tgt := 87) hx hb h20 dX9_isBlockThere_82 (by decide) (fun hq => ?_) (fun hq => ?_)
            · replace h := if_yes hq h
              obtain ⟨x21, ex21⟩ : ∃ y : Int, y = v1 + (1 : Int) := ⟨_, rfl⟩
              replace h := olet_at ex21 h
              refine lv_iinc (v := Int32.ofInt x21) (lv' := [(1, .int (Int32.ofInt x21)), (4, .int (Int32.ofInt x10)), (3, .int (Int32.ofInt x7)), (2, .int (Int32.ofInt x4)), (0, .ref (a 0))]) hx hb dX9_isBlockThere_87 hl (k := 4) rfl (by rw [ex21, Int32.ofInt_add]) (by decide) rfl (fun ls hl => ?_)
              refine lv_goto (tgt := 2) hx hb dX9_isBlockThere_90 (by decide) ?_
              exact ih S17 x21 h H locs ls hP hS (lv_sub hl [4, 0] rfl)
            · replace h := if_no hq h
              refine lv_iconst (v := Int32.ofInt (1 : Int)) hx hb dX9_isBlockThere_85 (by decide) ?_
              obtain rfl := Option.some.inj h
              exact hr (bit_of (Or.inr rfl)) _ _ _ _ dX9_isBlockThere_86 hP hS
set_option maxHeartbeats 4000000 in
set_option maxRecDepth 100000 in
theorem t_X9_isBlockThere {z : SZ × Int} (hc : Cx p R s m args c D (tysWM g) A (WM a g) cX9_isBlockThere 5 RX9 2 46) (hr : Rtz p l e R s m args below meth c Q D A (WM a g) cX9_isBlockThere (em z.1, Int32.ofInt z.2)) : ∀ (S : SZ), f_X9_isBlockThere S = some z → Go p l e R s m args below meth c Q D A (WM a g) 5 (em S) 0 [(0, .ref (a 0))] [] := by
  obtain ⟨⟨hx, hb, hml, hown, hts⟩, -, -, -, hnf, hno⟩ := id hc
  intro S h H locs ls hP hS hl
  rw [f_X9_isBlockThere] at h
  replace hl : lv_has ls 5 [(0, .ref (a 0))] := hl
  refine lv_iconst (v := Int32.ofInt (0 : Int)) hx hb dX9_isBlockThere_0 (by decide) ?_
  refine lv_istore_n (lv' := [(1, .int (Int32.ofInt (0 : Int))), (0, .ref (a 0))]) hx hb dX9_isBlockThere_1 rfl hl (by decide) rfl (fun ls hl => ?_)
  exact t_X9_isBlockThere_p2 hc hr FU S (0 : Int) h H locs ls hP hS (lv_sub hl [1, 0] rfl)
abbrev rm_X9_isBlockThere : Room := { frames := 2, cells := 0, slots := 0, locals := 46 }
theorem c_X9_isBlockThere {l : Launch} {D : va_G} {a : Nat → Nat} {g : Nat → ClassId} {S : SZ} {Z1 : SZ} {r1 : Int} (h : f_X9_isBlockThere S = some (Z1, r1)) : MetI l D (tysWM g) (WM a g) E0 yX9_isBlockThere cX9_isBlockThere 5 (some .boolean) rm_X9_isBlockThere [.ref (a 0)] (em S) (em Z1, Int32.ofInt r1) := mk_z (WM_same a g) (by decide) (em Z1, Int32.ofInt r1) (Nat.le_of_ble_eq_true rfl) (fun p e s m args below meth c A Q hc hE hr => t_X9_isBlockThere (z := (Z1, r1)) hc hr S h)
theorem k_X9_isBlockThere : CalV RX9 yX9_isBlockThere cX9_isBlockThere 5 (some .boolean) rm_X9_isBlockThere 0 := ⟨q_271, q_272, q_5, q_273, by decide +kernel, rfl, rfl⟩
end W
