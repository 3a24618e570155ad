section W
variable {p : Program} {l : Launch} {e : Env} {R : Room} {s : State} {m : MethodId} {args : Array Value} {below : List Frame} {meth : Method} {c : Code} {Q : State → Prop} {D : va_G} {A : Nat → Prop} {a : Nat → Nat} {g : Nat → ClassId}
set_option maxHeartbeats 4000000 in
set_option maxRecDepth 100000 in
theorem t_J13_bitCount {z : SZ × Int} (hc : Cx p R s m args c D (tysWX g) A (WX a g) cJ13_bitCount_95d88 2 RJ13 0 0) (hr : Rti p l e R s m args below meth c Q D A (WX a g) cJ13_bitCount_95d88 (em z.1, Int32.ofInt z.2)) : ∀ (S : SZ) (v0 : Int), f_J13_bitCount S v0 = some z → Go p l e R s m args below meth c Q D A (WX a g) 2 (em S) 0 [(0, .long (Int64.ofInt v0))] [] := by
  obtain ⟨⟨hx, hb, hml, hown, hts⟩, -, -, -, hnf, hno⟩ := id hc
  intro S v0 h H locs ls hP hS hl
  rw [f_J13_bitCount] at h
  replace hl : lv_has ls 2 [(0, .long (Int64.ofInt v0))] := hl
  refine lv_lload_n hx hb dJ13_bitCount_95d88_0 rfl (lv_at hl 0 rfl) ?_
  refine lv_lload_n hx hb dJ13_bitCount_95d88_1 rfl (lv_at hl 0 rfl) ?_
  refine lv_iconst (v := Int32.ofInt (1 : Int)) hx hb dJ13_bitCount_95d88_2 (by decide) ?_
  refine z_lushr hx hb dJ13_bitCount_95d88_3 ?_
  refine lv_ldc2 (v := Int64.ofInt (6148914691236517205 : Int)) hx hb hown (by have h9 := hts _ q_485; rwa [show (6148914691236517205 : Int64) = Int64.ofInt (6148914691236517205 : Int) by decide] at h9) dJ13_bitCount_95d88_4 ?_
  refine z_land hx hb dJ13_bitCount_95d88_7 ?_
  refine z_lsub hx hb dJ13_bitCount_95d88_8 ?_
  refine z_topl (fun x1 ex1 => ?_)
  replace h := olet_at ex1 h
  refine lv_lstore_n (lv' := [(0, .long (Int64.ofInt x1))]) hx hb dJ13_bitCount_95d88_9 rfl hl (by decide) rfl (fun ls hl => ?_)
  refine lv_lload_n hx hb dJ13_bitCount_95d88_10 rfl (lv_at hl 0 rfl) ?_
  refine lv_ldc2 (v := Int64.ofInt (3689348814741910323 : Int)) hx hb hown (by have h9 := hts _ q_486; rwa [show (3689348814741910323 : Int64) = Int64.ofInt (3689348814741910323 : Int) by decide] at h9) dJ13_bitCount_95d88_11 ?_
  refine z_land hx hb dJ13_bitCount_95d88_14 ?_
  refine lv_lload_n hx hb dJ13_bitCount_95d88_15 rfl (lv_at hl 0 rfl) ?_
  refine lv_iconst (v := Int32.ofInt (2 : Int)) hx hb dJ13_bitCount_95d88_16 (by decide) ?_
  refine z_lushr hx hb dJ13_bitCount_95d88_17 ?_
  refine lv_ldc2 (v := Int64.ofInt (3689348814741910323 : Int)) hx hb hown (by have h9 := hts _ q_486; rwa [show (3689348814741910323 : Int64) = Int64.ofInt (3689348814741910323 : Int) by decide] at h9) dJ13_bitCount_95d88_18 ?_
  refine z_land hx hb dJ13_bitCount_95d88_21 ?_
  refine z_ladd hx hb dJ13_bitCount_95d88_22 ?_
  refine z_topl (fun x2 ex2 => ?_)
  replace h := olet_at ex2 h
  refine lv_lstore_n (lv' := [(0, .long (Int64.ofInt x2))]) hx hb dJ13_bitCount_95d88_23 rfl hl (by decide) rfl (fun ls hl => ?_)
  refine lv_lload_n hx hb dJ13_bitCount_95d88_24 rfl (lv_at hl 0 rfl) ?_
  refine lv_lload_n hx hb dJ13_bitCount_95d88_25 rfl (lv_at hl 0 rfl) ?_
  refine lv_iconst (v := Int32.ofInt (4 : Int)) hx hb dJ13_bitCount_95d88_26 (by decide) ?_
  refine z_lushr hx hb dJ13_bitCount_95d88_27 ?_
  refine z_ladd hx hb dJ13_bitCount_95d88_28 ?_
  refine lv_ldc2 (v := Int64.ofInt (1085102592571150095 : Int)) hx hb hown (by have h9 := hts _ q_487; rwa [show (1085102592571150095 : Int64) = Int64.ofInt (1085102592571150095 : Int) by decide] at h9) dJ13_bitCount_95d88_29 ?_
  refine z_land hx hb dJ13_bitCount_95d88_32 ?_
  refine z_topl (fun x3 ex3 => ?_)
  replace h := olet_at ex3 h
  refine lv_lstore_n (lv' := [(0, .long (Int64.ofInt x3))]) hx hb dJ13_bitCount_95d88_33 rfl hl (by decide) rfl (fun ls hl => ?_)
  refine lv_lload_n hx hb dJ13_bitCount_95d88_34 rfl (lv_at hl 0 rfl) ?_
  refine lv_lload_n hx hb dJ13_bitCount_95d88_35 rfl (lv_at hl 0 rfl) ?_
  refine lv_bipush (v := Int32.ofInt (8 : Int)) hx hb dJ13_bitCount_95d88_36 (by decide) ?_
  refine z_lushr hx hb dJ13_bitCount_95d88_38 ?_
  refine z_ladd hx hb dJ13_bitCount_95d88_39 ?_
  refine z_topl (fun x4 ex4 => ?_)
  replace h := olet_at ex4 h
  refine lv_lstore_n (lv' := [(0, .long (Int64.ofInt x4))]) hx hb dJ13_bitCount_95d88_40 rfl hl (by decide) rfl (fun ls hl => ?_)
  refine lv_lload_n hx hb dJ13_bitCount_95d88_41 rfl (lv_at hl 0 rfl) ?_
  refine lv_lload_n hx hb dJ13_bitCount_95d88_42 rfl (lv_at hl 0 rfl) ?_
  refine lv_bipush (v := Int32.ofInt (16 : Int)) hx hb dJ13_bitCount_95d88_43 (by decide) ?_
  refine z_lushr hx hb dJ13_bitCount_95d88_45 ?_
  refine z_ladd hx hb dJ13_bitCount_95d88_46 ?_
  refine z_topl (fun x5 ex5 => ?_)
  replace h := olet_at ex5 h
  refine lv_lstore_n (lv' := [(0, .long (Int64.ofInt x5))]) hx hb dJ13_bitCount_95d88_47 rfl hl (by decide) rfl (fun ls hl => ?_)
  refine lv_lload_n hx hb dJ13_bitCount_95d88_48 rfl (lv_at hl 0 rfl) ?_
  refine lv_lload_n hx hb dJ13_bitCount_95d88_49 rfl (lv_at hl 0 rfl) ?_
  refine lv_bipush (v := Int32.ofInt (32 : Int)) hx hb dJ13_bitCount_95d88_50 (by decide) ?_
  refine z_lushr hx hb dJ13_bitCount_95d88_52 ?_
  refine z_ladd hx hb dJ13_bitCount_95d88_53 ?_
  refine z_topl (fun x6 ex6 => ?_)
  replace h := olet_at ex6 h
  refine lv_lstore_n (lv' := [(0, .long (Int64.ofInt x6))]) hx hb dJ13_bitCount_95d88_54 rfl hl (by decide) rfl (fun ls hl => ?_)
  refine lv_lload_n hx hb dJ13_bitCount_95d88_55 rfl (lv_at hl 0 rfl) ?_
  refine z_l2i hx hb dJ13_bitCount_95d88_56 ?_
  refine lv_bipush (v := Int32.ofInt (127 : Int)) hx hb dJ13_bitCount_95d88_57 (by decide) ?_
  refine z_iand hx hb dJ13_bitCount_95d88_59 ?_
  obtain rfl := Option.some.inj h
  exact hr _ _ _ _ dJ13_bitCount_95d88_60 hP hS
abbrev rm_J13_bitCount : Room := { frames := 0, cells := 0, slots := 0, locals := 0 }
theorem c_J13_bitCount {l : Launch} {D : va_G} {a : Nat → Nat} {g : Nat → ClassId} {S : SZ} {v0 : Int} {Z1 : SZ} {r1 : Int} (h : f_J13_bitCount S v0 = some (Z1, r1)) : MetI l D (tysWX g) (WX a g) E0 yJ13_bitCount_95d88 cJ13_bitCount_95d88 2 (some .int) rm_J13_bitCount [.long (Int64.ofInt v0)] (em S) (em Z1, Int32.ofInt r1) := mk_i (WX_same a g) (by decide) (em Z1, Int32.ofInt r1) (Nat.le_of_ble_eq_true rfl) (fun p e s m args below meth c A Q hc hE hr => t_J13_bitCount (z := (Z1, r1)) hc hr S v0 h)
theorem k_J13_bitCount : CalS yJ13_bitCount_95d88 cJ13_bitCount_95d88 2 (some .int) rm_J13_bitCount 1 := ⟨q_482, q_483, q_484, by decide +kernel, rfl, rfl⟩
end W
