section W
variable {p : Program} {l : Launch} {e : Env} {R : Room} {s : State} {m : MethodId} {args : Array Value} {below : List Frame} {meth : Method} {c : Code} {Q : State → Prop} {D : va_G} {A : Nat → Prop} {a : Nat → Nat} {g : Nat → ClassId}
set_option maxHeartbeats 4000000 in
set_option maxRecDepth 100000 in
theorem t_X2_of {z : SZ × Int} (hc : Cx p R s m args c D (tysWX g) A (WX a g) cX2_of 2 RX2 0 0) (hr : Rtl p l e R s m args below meth c Q D A (WX a g) cX2_of (em z.1, Int64.ofInt z.2)) : ∀ (S : SZ) (v0 : Int) (v1 : Int), f_X2_of S v0 v1 = some z → Go p l e R s m args below meth c Q D A (WX a g) 2 (em S) 0 [(0, .int (Int32.ofInt v0)), (1, .int (Int32.ofInt v1))] [] := by
  obtain ⟨⟨hx, hb, hml, hown, hts⟩, -, -, -, hnf, hno⟩ := id hc
  intro S v0 v1 h H locs ls hP hS hl
  rw [f_X2_of] at h
  replace hl : lv_has ls 2 [(0, .int (Int32.ofInt v0)), (1, .int (Int32.ofInt v1))] := hl
  refine lv_iload_n hx hb dX2_of_0 rfl (lv_at hl 0 rfl) ?_
  obtain ⟨h1, h⟩ := chk_at h
  refine z_i2l hx hb h1 dX2_of_1 ?_
  refine lv_bipush (v := Int32.ofInt (32 : Int)) hx hb dX2_of_2 (by decide) ?_
  refine z_lshl hx hb dX2_of_4 ?_
  refine lv_iload_n hx hb dX2_of_5 rfl (lv_at hl 1 rfl) ?_
  obtain ⟨h2, h⟩ := chk_at h
  refine z_i2l hx hb h2 dX2_of_6 ?_
  refine z_lor hx hb dX2_of_7 ?_
  obtain rfl := Option.some.inj h
  exact hr _ _ _ _ dX2_of_8 hP hS
abbrev rm_X2_of : Room := { frames := 0, cells := 0, slots := 0, locals := 0 }
theorem c_X2_of {l : Launch} {D : va_G} {a : Nat → Nat} {g : Nat → ClassId} {S : SZ} {v0 : Int} {v1 : Int} {Z1 : SZ} {r1 : Int} (h : f_X2_of S v0 v1 = some (Z1, r1)) : MetL l D (tysWX g) (WX a g) E0 yX2_of cX2_of 2 (some .long) rm_X2_of [.int (Int32.ofInt v0), .int (Int32.ofInt v1)] (em S) (em Z1, Int64.ofInt r1) := mk_l (WX_same a g) (by decide) (em Z1, Int64.ofInt r1) (Nat.le_of_ble_eq_true rfl) (fun p e s m args below meth c A Q hc hE hr => t_X2_of (z := (Z1, r1)) hc hr S v0 v1 h)
theorem k_X2_of : CalS yX2_of cX2_of 2 (some .long) rm_X2_of 2 := ⟨q_450, q_451, q_452, by decide +kernel, rfl, rfl⟩
set_option maxHeartbeats 4000000 in
set_option maxRecDepth 100000 in
theorem t_X2_less {z : SZ × Int} (hc : Cx p R s m args c D (tysWX g) A (WX a g) cX2_less 4 RX2 0 0) (hr : Rtz p l e R s m args below meth c Q D A (WX a g) cX2_less (em z.1, Int32.ofInt z.2)) : ∀ (S : SZ) (v0 : Int) (v2 : Int), f_X2_less S v0 v2 = some z → Go p l e R s m args below meth c Q D A (WX a g) 4 (em S) 0 [(0, .long (Int64.ofInt v0)), (2, .long (Int64.ofInt v2))] [] := by
  obtain ⟨⟨hx, hb, hml, hown, hts⟩, -, -, -, hnf, hno⟩ := id hc
  intro S v0 v2 h H locs ls hP hS hl
  rw [f_X2_less] at h
  replace hl : lv_has ls 4 [(0, .long (Int64.ofInt v0)), (2, .long (Int64.ofInt v2))] := hl
  refine lv_lload_n hx hb dX2_less_0 rfl (lv_at hl 0 rfl) ?_
  refine lv_bipush (v := Int32.ofInt (32 : Int)) hx hb dX2_less_1 (by decide) ?_
  refine z_lshr hx hb dX2_less_3 ?_
  refine lv_lload_n hx hb dX2_less_4 rfl (lv_at hl 1 rfl) ?_
  refine z_l2i hx hb dX2_less_5 ?_
  obtain ⟨h1, h⟩ := chk_at h
  refine z_i2l hx hb h1 dX2_less_6 ?_
  refine z_lmul hx hb dX2_less_7 ?_
  refine lv_lload_n hx hb dX2_less_8 rfl (lv_at hl 1 rfl) ?_
  refine lv_bipush (v := Int32.ofInt (32 : Int)) hx hb dX2_less_9 (by decide) ?_
  refine z_lshr hx hb dX2_less_11 ?_
  refine lv_lload_n hx hb dX2_less_12 rfl (lv_at hl 0 rfl) ?_
  refine z_l2i hx hb dX2_less_13 ?_
  obtain ⟨h2, h⟩ := chk_at h
  refine z_i2l hx hb h2 dX2_less_14 ?_
  refine z_lmul hx hb dX2_less_15 ?_
  refine W.lcmp hx hb dX2_less_16 ?_
  obtain ⟨h3, h⟩ := chk_at h
  obtain ⟨h4, h⟩ := chk_at h
  refine zc_if_ge (tgt := 24) hx hb h3 h4 dX2_less_17 (by decide) (fun hq => ?_) (fun hq => ?_)
  · replace h := if_yes hq h
    refine lv_iconst (v := Int32.ofInt (0 : Int)) hx hb dX2_less_24 (by decide) ?_
    obtain rfl := Option.some.inj h
    exact hr (bit_of (Or.inl rfl)) _ _ _ _ dX2_less_25 hP hS
  · replace h := if_no hq h
    refine lv_iconst (v := Int32.ofInt (1 : Int)) hx hb dX2_less_20 (by decide) ?_
    refine lv_goto (tgt := 25) hx hb dX2_less_21 (by decide) ?_
    obtain rfl := Option.some.inj h
    exact hr (bit_of (Or.inr rfl)) _ _ _ _ dX2_less_25 hP hS
abbrev rm_X2_less : Room := { frames := 0, cells := 0, slots := 0, locals := 0 }
theorem c_X2_less {l : Launch} {D : va_G} {a : Nat → Nat} {g : Nat → ClassId} {S : SZ} {v0 : Int} {v2 : Int} {Z1 : SZ} {r1 : Int} (h : f_X2_less S v0 v2 = some (Z1, r1)) : MetI l D (tysWX g) (WX a g) E0 yX2_less cX2_less 4 (some .boolean) rm_X2_less [.long (Int64.ofInt v0), .long (Int64.ofInt v2)] (em S) (em Z1, Int32.ofInt r1) := mk_z (WX_same a g) (by decide) (em Z1, Int32.ofInt r1) (Nat.le_of_ble_eq_true rfl) (fun p e s m args below meth c A Q hc hE hr => t_X2_less (z := (Z1, r1)) hc hr S v0 v2 h)
theorem k_X2_less : CalS yX2_less cX2_less 4 (some .boolean) rm_X2_less 2 := ⟨q_454, q_451, q_455, by decide +kernel, rfl, rfl⟩
set_option maxHeartbeats 4000000 in
set_option maxRecDepth 100000 in
theorem t_X2_lowest_p51 {z : SZ × Int} (hc : Cx p R s m args c D (tysWX g) A (WX a g) cX2_lowest 8 RX2 0 0) (hr : Rtl p l e R s m args below meth c Q D A (WX a g) cX2_lowest (em z.1, Int64.ofInt z.2)) : ∀ (S : SZ) (v0 : Int) (v2 : Int) (v3 : Int) (v4 : Int), f_X2_lowest_p51 S v0 v2 v3 v4 = some z → Go p l e R s m args below meth c Q D A (WX a g) 8 (em S) 51 [(0, .long (Int64.ofInt v0)), (2, .int (Int32.ofInt v2)), (3, .int (Int32.ofInt v3)), (4, .int (Int32.ofInt v4))] [] := by
  obtain ⟨⟨hx, hb, hml, hown, hts⟩, -, -, -, hnf, hno⟩ := id hc
  intro S v0 v2 v3 v4 h H locs ls hP hS hl
  rw [f_X2_lowest_p51] at h
  refine lv_iload hx hb dX2_lowest_51 (lv_at hl 3 rfl) ?_
  refine lv_iconst (v := Int32.ofInt (1 : Int)) hx hb dX2_lowest_53 (by decide) ?_
  obtain ⟨h1, h⟩ := chk_at h
  refine z_icmp_le (tgt := 74) hx hb h1 (by decide) dX2_lowest_54 (by decide) (fun hq => ?_) (fun hq => ?_)
  · replace h := if_yes hq h
    refine lv_lload_n hx hb dX2_lowest_74 rfl (lv_at hl 0 rfl) ?_
    obtain rfl := Option.some.inj h
    exact hr _ _ _ _ dX2_lowest_75 hP hS
  · replace h := if_no hq h
    refine lv_iload_n hx hb dX2_lowest_57 rfl (lv_at hl 1 rfl) ?_
    refine lv_iload hx hb dX2_lowest_58 (lv_at hl 3 rfl) ?_
    obtain ⟨h2, h⟩ := chk_at h
    obtain ⟨h3, h⟩ := chk_at h
    refine z_idiv hx hb h2 h1 h3 dX2_lowest_60 ?_
    obtain ⟨h4, h⟩ := chk_at h
    refine z_i2l hx hb h4 dX2_lowest_61 ?_
    refine lv_bipush (v := Int32.ofInt (32 : Int)) hx hb dX2_lowest_62 (by decide) ?_
    refine z_lshl hx hb dX2_lowest_64 ?_
    refine lv_iload_n hx hb dX2_lowest_65 rfl (lv_at hl 2 rfl) ?_
    refine lv_iload hx hb dX2_lowest_66 (lv_at hl 3 rfl) ?_
    obtain ⟨h5, h⟩ := chk_at h
    refine z_idiv hx hb h5 h1 h3 dX2_lowest_68 ?_
    obtain ⟨h6, h⟩ := chk_at h
    refine z_i2l hx hb h6 dX2_lowest_69 ?_
    refine z_lor hx hb dX2_lowest_70 ?_
    refine lv_goto (tgt := 75) hx hb dX2_lowest_71 (by decide) ?_
    obtain rfl := Option.some.inj h
    exact hr _ _ _ _ dX2_lowest_75 hP hS
set_option maxHeartbeats 4000000 in
set_option maxRecDepth 100000 in
theorem t_X2_lowest_p18 {z : SZ × Int} (hc : Cx p R s m args c D (tysWX g) A (WX a g) cX2_lowest 8 RX2 0 0) (hr : Rtl p l e R s m args below meth c Q D A (WX a g) cX2_lowest (em z.1, Int64.ofInt z.2)) : ∀ (fu : Nat) (S : SZ) (v0 : Int) (v2 : Int) (v3 : Int) (v4 : Int) (v5 : Int) (v6 : Int), f_X2_lowest_p18 fu S v0 v2 v3 v4 v5 v6 = some z → Go p l e R s m args below meth c Q D A (WX a g) 8 (em S) 18 [(0, .long (Int64.ofInt v0)), (2, .int (Int32.ofInt v2)), (3, .int (Int32.ofInt v3)), (4, .int (Int32.ofInt v4)), (5, .int (Int32.ofInt v5)), (6, .int (Int32.ofInt v6))] [] := by
  obtain ⟨⟨hx, hb, hml, hown, hts⟩, -, -, -, hnf, hno⟩ := id hc
  intro fu
  induction fu with
  | zero =>
    intro S v0 v2 v3 v4 v5 v6 h
    rw [f_X2_lowest_p18] at h
    cases h
  | succ fu ih =>
    intro S v0 v2 v3 v4 v5 v6 h H locs ls hP hS hl
    rw [f_X2_lowest_p18] at h
    refine lv_iload hx hb dX2_lowest_18 (lv_at hl 5 rfl) ?_
    refine lv_bipush (v := Int32.ofInt (64 : Int)) hx hb dX2_lowest_20 (by decide) ?_
    obtain ⟨h1, h⟩ := chk_at h
    refine z_icmp_ge (tgt := 51) hx hb h1 (by decide) dX2_lowest_22 (by decide) (fun hq => ?_) (fun hq => ?_)
    · replace h := if_yes hq h
      exact t_X2_lowest_p51 hc hr S v0 v2 v3 v4 h H locs ls hP hS (lv_sub hl [0, 1, 2, 3] rfl)
    · replace h := if_no hq h
      refine lv_iload hx hb dX2_lowest_25 (lv_at hl 4 rfl) ?_
      obtain ⟨h2, h⟩ := chk_at h
      refine z_if_eq (tgt := 51) hx hb h2 dX2_lowest_27 (by decide) (fun hq => ?_) (fun hq => ?_)
      · replace h := if_yes hq h
        exact t_X2_lowest_p51 hc hr S v0 v2 v3 v4 h H locs ls hP hS (lv_sub hl [0, 1, 2, 3] rfl)
      · replace h := if_no hq h
        refine lv_iload hx hb dX2_lowest_30 (lv_at hl 3 rfl) ?_
        refine lv_iload hx hb dX2_lowest_32 (lv_at hl 4 rfl) ?_
        obtain ⟨h3, h⟩ := chk_at h
        obtain ⟨h4, h⟩ := chk_at h
        refine z_irem hx hb h3 h2 h4 dX2_lowest_34 ?_
        refine z_topi (fun x5 ex5 => ?_)
        replace h := olet_at ex5 h
        refine lv_istore (lv' := [(7, .int (Int32.ofInt x5)), (0, .long (Int64.ofInt v0)), (2, .int (Int32.ofInt v2)), (3, .int (Int32.ofInt v3)), (4, .int (Int32.ofInt v4)), (5, .int (Int32.ofInt v5)), (6, .int (Int32.ofInt v6))]) hx hb dX2_lowest_35 hl (by decide) rfl (fun ls hl => ?_)
        refine lv_iload hx hb dX2_lowest_37 (lv_at hl 5 rfl) ?_
        refine lv_istore (lv' := [(4, .int (Int32.ofInt v5)), (7, .int (Int32.ofInt x5)), (0, .long (Int64.ofInt v0)), (2, .int (Int32.ofInt v2)), (3, .int (Int32.ofInt v3)), (5, .int (Int32.ofInt v5)), (6, .int (Int32.ofInt v6))]) hx hb dX2_lowest_39 hl (by decide) rfl (fun ls hl => ?_)
        refine lv_iload hx hb dX2_lowest_41 (lv_at hl 1 rfl) ?_
        refine lv_istore (lv' := [(5, .int (Int32.ofInt x5)), (4, .int (Int32.ofInt v5)), (7, .int (Int32.ofInt x5)), (0, .long (Int64.ofInt v0)), (2, .int (Int32.ofInt v2)), (3, .int (Int32.ofInt v3)), (6, .int (Int32.ofInt v6))]) hx hb dX2_lowest_43 hl (by decide) rfl (fun ls hl => ?_)
        obtain ⟨x6, ex6⟩ : ∃ y : Int, y = v6 + (1 : Int) := ⟨_, rfl⟩
        replace h := olet_at ex6 h
        refine lv_iinc (v := Int32.ofInt x6) (lv' := [(6, .int (Int32.ofInt x6)), (5, .int (Int32.ofInt x5)), (4, .int (Int32.ofInt v5)), (7, .int (Int32.ofInt x5)), (0, .long (Int64.ofInt v0)), (2, .int (Int32.ofInt v2)), (3, .int (Int32.ofInt v3))]) hx hb dX2_lowest_45 hl (k := 6) rfl (by rw [ex6, Int32.ofInt_add]) (by decide) rfl (fun ls hl => ?_)
        refine lv_goto (tgt := 18) hx hb dX2_lowest_48 (by decide) ?_
        exact ih S v0 v2 v3 v5 x5 x6 h H locs ls hP hS (lv_sub hl [4, 5, 6, 2, 1, 0] rfl)
set_option maxHeartbeats 4000000 in
set_option maxRecDepth 100000 in
theorem t_X2_lowest {z : SZ × Int} (hc : Cx p R s m args c D (tysWX g) A (WX a g) cX2_lowest 8 RX2 0 0) (hr : Rtl p l e R s m args below meth c Q D A (WX a g) cX2_lowest (em z.1, Int64.ofInt z.2)) : ∀ (S : SZ) (v0 : Int), f_X2_lowest S v0 = some z → Go p l e R s m args below meth c Q D A (WX a g) 8 (em S) 0 [(0, .long (Int64.ofInt v0))] [] := by
  obtain ⟨⟨hx, hb, hml, hown, hts⟩, -, -, -, hnf, hno⟩ := id hc
  intro S v0 h H locs ls hP hS hl
  rw [f_X2_lowest] at h
  replace hl : lv_has ls 8 [(0, .long (Int64.ofInt v0))] := hl
  refine lv_lload_n hx hb dX2_lowest_0 rfl (lv_at hl 0 rfl) ?_
  refine lv_bipush (v := Int32.ofInt (32 : Int)) hx hb dX2_lowest_1 (by decide) ?_
  refine z_lshr hx hb dX2_lowest_3 ?_
  refine z_l2i hx hb dX2_lowest_4 ?_
  refine z_topi (fun x1 ex1 => ?_)
  replace h := olet_at ex1 h
  refine lv_istore_n (lv' := [(2, .int (Int32.ofInt x1)), (0, .long (Int64.ofInt v0))]) hx hb dX2_lowest_5 rfl hl (by decide) rfl (fun ls hl => ?_)
  refine lv_lload_n hx hb dX2_lowest_6 rfl (lv_at hl 1 rfl) ?_
  refine z_l2i hx hb dX2_lowest_7 ?_
  refine z_topi (fun x2 ex2 => ?_)
  replace h := olet_at ex2 h
  refine lv_istore_n (lv' := [(3, .int (Int32.ofInt x2)), (2, .int (Int32.ofInt x1)), (0, .long (Int64.ofInt v0))]) hx hb dX2_lowest_8 rfl hl (by decide) rfl (fun ls hl => ?_)
  refine lv_iload_n hx hb dX2_lowest_9 rfl (lv_at hl 0 rfl) ?_
  refine lv_istore (lv' := [(4, .int (Int32.ofInt x2)), (3, .int (Int32.ofInt x2)), (2, .int (Int32.ofInt x1)), (0, .long (Int64.ofInt v0))]) hx hb dX2_lowest_10 hl (by decide) rfl (fun ls hl => ?_)
  refine lv_iload_n hx hb dX2_lowest_12 rfl (lv_at hl 2 rfl) ?_
  refine lv_istore (lv' := [(5, .int (Int32.ofInt x1)), (4, .int (Int32.ofInt x2)), (3, .int (Int32.ofInt x2)), (2, .int (Int32.ofInt x1)), (0, .long (Int64.ofInt v0))]) hx hb dX2_lowest_13 hl (by decide) rfl (fun ls hl => ?_)
  refine lv_iconst (v := Int32.ofInt (0 : Int)) hx hb dX2_lowest_15 (by decide) ?_
  refine lv_istore (lv' := [(6, .int (Int32.ofInt (0 : Int))), (5, .int (Int32.ofInt x1)), (4, .int (Int32.ofInt x2)), (3, .int (Int32.ofInt x2)), (2, .int (Int32.ofInt x1)), (0, .long (Int64.ofInt v0))]) hx hb dX2_lowest_16 hl (by decide) rfl (fun ls hl => ?_)
  exact t_X2_lowest_p18 hc hr FU S v0 x1 x2 x2 x1 (0 : Int) h H locs ls hP hS (lv_sub hl [5, 4, 3, 2, 1, 0] rfl)
abbrev rm_X2_lowest : Room := { frames := 0, cells := 0, slots := 0, locals := 0 }
theorem c_X2_lowest {l : Launch} {D : va_G} {a : Nat → Nat} {g : Nat → ClassId} {S : SZ} {v0 : Int} {Z1 : SZ} {r1 : Int} (h : f_X2_lowest S v0 = some (Z1, r1)) : MetL l D (tysWX g) (WX a g) E0 yX2_lowest cX2_lowest 8 (some .long) rm_X2_lowest [.long (Int64.ofInt v0)] (em S) (em Z1, Int64.ofInt r1) := mk_l (WX_same a g) (by decide) (em Z1, Int64.ofInt r1) (Nat.le_of_ble_eq_true rfl) (fun p e s m args below meth c A Q hc hE hr => t_X2_lowest (z := (Z1, r1)) hc hr S v0 h)
theorem k_X2_lowest : CalS yX2_lowest cX2_lowest 8 (some .long) rm_X2_lowest 1 := ⟨q_457, q_451, q_458, by decide +kernel, rfl, rfl⟩
set_option maxHeartbeats 4000000 in
set_option maxRecDepth 100000 in
theorem t_X2_part {z : SZ × Int} (hc : Cx p R s m args c D (tysWX g) A (WX a g) cX2_part 3 RX2 0 0) (hr : Rti p l e R s m args below meth c Q D A (WX a g) cX2_part (em z.1, Int32.ofInt z.2)) : ∀ (S : SZ) (v0 : Int) (v2 : Int), f_X2_part S v0 v2 = some z → Go p l e R s m args below meth c Q D A (WX a g) 3 (em S) 0 [(0, .long (Int64.ofInt v0)), (2, .int (Int32.ofInt v2))] [] := by
  obtain ⟨⟨hx, hb, hml, hown, hts⟩, -, -, -, hnf, hno⟩ := id hc
  intro S v0 v2 h H locs ls hP hS hl
  rw [f_X2_part] at h
  replace hl : lv_has ls 3 [(0, .long (Int64.ofInt v0)), (2, .int (Int32.ofInt v2))] := hl
  refine lv_iload_n hx hb dX2_part_0 rfl (lv_at hl 1 rfl) ?_
  obtain ⟨h1, h⟩ := chk_at h
  refine z_if_ne (tgt := 12) hx hb h1 dX2_part_1 (by decide) (fun hq => ?_) (fun hq => ?_)
  · replace h := if_no hq h
    refine lv_lload_n hx hb dX2_part_12 rfl (lv_at hl 0 rfl) ?_
    refine z_l2i hx hb dX2_part_13 ?_
    obtain rfl := Option.some.inj h
    exact hr _ _ _ _ dX2_part_14 hP hS
  · replace h := if_yes hq h
    refine lv_lload_n hx hb dX2_part_4 rfl (lv_at hl 0 rfl) ?_
    refine lv_bipush (v := Int32.ofInt (32 : Int)) hx hb dX2_part_5 (by decide) ?_
    refine z_lshr hx hb dX2_part_7 ?_
    refine z_l2i hx hb dX2_part_8 ?_
    refine lv_goto (tgt := 14) hx hb dX2_part_9 (by decide) ?_
    obtain rfl := Option.some.inj h
    exact hr _ _ _ _ dX2_part_14 hP hS
abbrev rm_X2_part : Room := { frames := 0, cells := 0, slots := 0, locals := 0 }
theorem c_X2_part {l : Launch} {D : va_G} {a : Nat → Nat} {g : Nat → ClassId} {S : SZ} {v0 : Int} {v2 : Int} {Z1 : SZ} {r1 : Int} (h : f_X2_part S v0 v2 = some (Z1, r1)) : MetI l D (tysWX g) (WX a g) E0 yX2_part cX2_part 3 (some .int) rm_X2_part [.long (Int64.ofInt v0), .int (Int32.ofInt v2)] (em S) (em Z1, Int32.ofInt r1) := mk_i (WX_same a g) (by decide) (em Z1, Int32.ofInt r1) (Nat.le_of_ble_eq_true rfl) (fun p e s m args below meth c A Q hc hE hr => t_X2_part (z := (Z1, r1)) hc hr S v0 v2 h)
theorem k_X2_part : CalS yX2_part cX2_part 3 (some .int) rm_X2_part 2 := ⟨q_697, q_451, q_698, by decide +kernel, rfl, rfl⟩
end W
