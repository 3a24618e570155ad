section W
variable {p : Program} {l : Launch} {e : Env} {R : Room} {s : State} {m : MethodId} {args : Array Value} {below : List Frame} {meth : Method} {c : Code} {Q : State → Prop} {D : va_G} {A : Nat → Prop} {a : Nat → Nat} {g : Nat → ClassId}
set_option maxHeartbeats 4000000 in
set_option maxRecDepth 100000 in
theorem t_J7_fill_number_p5 {z : SZ} (hc : Cx p R s m args c D (tysWX g) A (WX a g) cJ7_fill_53178 4 RJ7 0 0) (hr : Rtv p l e R s m args below meth c Q D A (WX a g) cJ7_fill_53178 (em z)) : ∀ (fu : Nat) (S : SZ) (v1 : Int) (v2 : Int) (v3 : Int), f_J7_fill_number_p5 fu S v1 v2 v3 = some z → Go p l e R s m args below meth c Q D A (WX a g) 4 (em S) 5 [(0, .ref (a 19)), (1, .int (Int32.ofInt v1)), (2, .int (Int32.ofInt v2)), (3, .int (Int32.ofInt v3))] [] := by
  obtain ⟨⟨hx, hb, hml, hown, hts⟩, -, -, -, hnf, hno⟩ := id hc
  intro fu
  induction fu with
  | zero =>
    intro S v1 v2 v3 h
    rw [f_J7_fill_number_p5] at h
    cases h
  | succ fu ih =>
    intro S v1 v2 v3 h H locs ls hP hS hl
    rw [f_J7_fill_number_p5] at h
    refine lv_iload_n hx hb dJ7_fill_53178_5 rfl (lv_at hl 2 rfl) ?_
    refine lv_iload_n hx hb dJ7_fill_53178_6 rfl (lv_at hl 3 rfl) ?_
    obtain ⟨h1, h⟩ := chk_at h
    obtain ⟨h2, h⟩ := chk_at h
    refine z_icmp_ge (tgt := 20) hx hb h1 h2 dJ7_fill_53178_7 (by decide) (fun hq => ?_) (fun hq => ?_)
    · replace h := if_yes hq h
      obtain rfl := Option.some.inj h
      exact hr _ _ _ _ dJ7_fill_53178_20 hP hS
    · replace h := if_no hq h
      refine lv_aload_n hx hb dJ7_fill_53178_10 rfl (lv_at hl 0 rfl) ?_
      refine lv_iload_n hx hb dJ7_fill_53178_11 rfl (lv_at hl 2 rfl) ?_
      refine lv_iload_n hx hb dJ7_fill_53178_12 rfl (lv_at hl 1 rfl) ?_
      obtain ⟨h3, h⟩ := chk_at h
      refine szWX_Edges_number hc hP hS h3 dJ7_fill_53178_13 (fun H locs hP hS => ?_)
      obtain ⟨S4, eS4⟩ : ∃ z, z = ua S 11 (v2).toNat v1 := ⟨_, rfl⟩
      replace h := olet_at eS4 h
      rw [← eS4] at hP
      obtain ⟨x5, ex5⟩ : ∃ y : Int, y = v2 + (1 : Int) := ⟨_, rfl⟩
      replace h := olet_at ex5 h
      refine lv_iinc (v := Int32.ofInt x5) (lv' := [(2, .int (Int32.ofInt x5)), (0, .ref (a 19)), (1, .int (Int32.ofInt v1)), (3, .int (Int32.ofInt v3))]) hx hb dJ7_fill_53178_14 hl (k := 2) rfl (by rw [ex5, Int32.ofInt_add]) (by decide) rfl (fun ls hl => ?_)
      refine lv_goto (tgt := 5) hx hb dJ7_fill_53178_17 (by decide) ?_
      exact ih S4 v1 x5 v3 h H locs ls hP hS (lv_sub hl [1, 2, 0, 3] rfl)
set_option maxHeartbeats 4000000 in
set_option maxRecDepth 100000 in
theorem t_J7_fill_number {z : SZ} (hc : Cx p R s m args c D (tysWX g) A (WX a g) cJ7_fill_53178 4 RJ7 0 0) (hr : Rtv p l e R s m args below meth c Q D A (WX a g) cJ7_fill_53178 (em z)) : ∀ (S : SZ) (v1 : Int), f_J7_fill_number S v1 = some z → Go p l e R s m args below meth c Q D A (WX a g) 4 (em S) 0 [(0, .ref (a 19)), (1, .int (Int32.ofInt v1))] [] := by
  obtain ⟨⟨hx, hb, hml, hown, hts⟩, -, -, -, hnf, hno⟩ := id hc
  intro S v1 h H locs ls hP hS hl
  rw [f_J7_fill_number] at h
  replace hl : lv_has ls 4 [(0, .ref (a 19)), (1, .int (Int32.ofInt v1))] := hl
  refine lv_iconst (v := Int32.ofInt (0 : Int)) hx hb dJ7_fill_53178_0 (by decide) ?_
  refine lv_istore_n (lv' := [(2, .int (Int32.ofInt (0 : Int))), (0, .ref (a 19)), (1, .int (Int32.ofInt v1))]) hx hb dJ7_fill_53178_1 rfl hl (by decide) rfl (fun ls hl => ?_)
  refine lv_aload_n hx hb dJ7_fill_53178_2 rfl (lv_at hl 1 rfl) ?_
  refine nzWX_Edges_number hc hP dJ7_fill_53178_3 ?_
  refine lv_istore_n (lv' := [(3, .int (Int32.ofInt (256 : Int))), (2, .int (Int32.ofInt (0 : Int))), (0, .ref (a 19)), (1, .int (Int32.ofInt v1))]) hx hb dJ7_fill_53178_4 rfl hl (by decide) rfl (fun ls hl => ?_)
  exact t_J7_fill_number_p5 hc hr FU S v1 (0 : Int) (256 : Int) h H locs ls hP hS (lv_sub hl [2, 3, 1, 0] rfl)
abbrev rm_J7_fill_number : Room := { frames := 0, cells := 0, slots := 0, locals := 0 }
theorem c_J7_fill_number {l : Launch} {D : va_G} {a : Nat → Nat} {g : Nat → ClassId} {S : SZ} {v1 : Int} {z : SZ} (h : f_J7_fill_number S v1 = some z) : MetV l D (tysWX g) (WX a g) E0 yJ7_fill_53178 cJ7_fill_53178 4 none rm_J7_fill_number [.ref (a 19), .int (Int32.ofInt v1)] (em S) (em z) := mk_v (WX_same a g) (by decide) (em z) (Nat.le_of_ble_eq_true rfl) (fun p e s m args below meth c A Q hc hE hr => t_J7_fill_number (z := z) hc hr S v1 h)
theorem k_J7_fill_number : CalS yJ7_fill_53178 cJ7_fill_53178 4 none rm_J7_fill_number 2 := ⟨q_379, q_380, q_381, by decide +kernel, rfl, rfl⟩
set_option maxHeartbeats 4000000 in
set_option maxRecDepth 100000 in
theorem t_J7_fill_shared_p5 {z : SZ} (hc : Cx p R s m args c D (tysWX g) A (WX a g) cJ7_fill_53178 4 RJ7 0 0) (hr : Rtv p l e R s m args below meth c Q D A (WX a g) cJ7_fill_53178 (em z)) : ∀ (fu : Nat) (S : SZ) (v1 : Int) (v2 : Int) (v3 : Int), f_J7_fill_shared_p5 fu S v1 v2 v3 = some z → Go p l e R s m args below meth c Q D A (WX a g) 4 (em S) 5 [(0, .ref (a 20)), (1, .int (Int32.ofInt v1)), (2, .int (Int32.ofInt v2)), (3, .int (Int32.ofInt v3))] [] := by
  obtain ⟨⟨hx, hb, hml, hown, hts⟩, -, -, -, hnf, hno⟩ := id hc
  intro fu
  induction fu with
  | zero =>
    intro S v1 v2 v3 h
    rw [f_J7_fill_shared_p5] at h
    cases h
  | succ fu ih =>
    intro S v1 v2 v3 h H locs ls hP hS hl
    rw [f_J7_fill_shared_p5] at h
    refine lv_iload_n hx hb dJ7_fill_53178_5 rfl (lv_at hl 2 rfl) ?_
    refine lv_iload_n hx hb dJ7_fill_53178_6 rfl (lv_at hl 3 rfl) ?_
    obtain ⟨h1, h⟩ := chk_at h
    obtain ⟨h2, h⟩ := chk_at h
    refine z_icmp_ge (tgt := 20) hx hb h1 h2 dJ7_fill_53178_7 (by decide) (fun hq => ?_) (fun hq => ?_)
    · replace h := if_yes hq h
      obtain rfl := Option.some.inj h
      exact hr _ _ _ _ dJ7_fill_53178_20 hP hS
    · replace h := if_no hq h
      refine lv_aload_n hx hb dJ7_fill_53178_10 rfl (lv_at hl 0 rfl) ?_
      refine lv_iload_n hx hb dJ7_fill_53178_11 rfl (lv_at hl 2 rfl) ?_
      refine lv_iload_n hx hb dJ7_fill_53178_12 rfl (lv_at hl 1 rfl) ?_
      obtain ⟨h3, h⟩ := chk_at h
      refine szWX_Edges_shared hc hP hS h3 dJ7_fill_53178_13 (fun H locs hP hS => ?_)
      obtain ⟨S4, eS4⟩ : ∃ z, z = ua S 12 (v2).toNat v1 := ⟨_, rfl⟩
      replace h := olet_at eS4 h
      rw [← eS4] at hP
      obtain ⟨x5, ex5⟩ : ∃ y : Int, y = v2 + (1 : Int) := ⟨_, rfl⟩
      replace h := olet_at ex5 h
      refine lv_iinc (v := Int32.ofInt x5) (lv' := [(2, .int (Int32.ofInt x5)), (0, .ref (a 20)), (1, .int (Int32.ofInt v1)), (3, .int (Int32.ofInt v3))]) hx hb dJ7_fill_53178_14 hl (k := 2) rfl (by rw [ex5, Int32.ofInt_add]) (by decide) rfl (fun ls hl => ?_)
      refine lv_goto (tgt := 5) hx hb dJ7_fill_53178_17 (by decide) ?_
      exact ih S4 v1 x5 v3 h H locs ls hP hS (lv_sub hl [1, 2, 0, 3] rfl)
set_option maxHeartbeats 4000000 in
set_option maxRecDepth 100000 in
theorem t_J7_fill_shared {z : SZ} (hc : Cx p R s m args c D (tysWX g) A (WX a g) cJ7_fill_53178 4 RJ7 0 0) (hr : Rtv p l e R s m args below meth c Q D A (WX a g) cJ7_fill_53178 (em z)) : ∀ (S : SZ) (v1 : Int), f_J7_fill_shared S v1 = some z → Go p l e R s m args below meth c Q D A (WX a g) 4 (em S) 0 [(0, .ref (a 20)), (1, .int (Int32.ofInt v1))] [] := by
  obtain ⟨⟨hx, hb, hml, hown, hts⟩, -, -, -, hnf, hno⟩ := id hc
  intro S v1 h H locs ls hP hS hl
  rw [f_J7_fill_shared] at h
  replace hl : lv_has ls 4 [(0, .ref (a 20)), (1, .int (Int32.ofInt v1))] := hl
  refine lv_iconst (v := Int32.ofInt (0 : Int)) hx hb dJ7_fill_53178_0 (by decide) ?_
  refine lv_istore_n (lv' := [(2, .int (Int32.ofInt (0 : Int))), (0, .ref (a 20)), (1, .int (Int32.ofInt v1))]) hx hb dJ7_fill_53178_1 rfl hl (by decide) rfl (fun ls hl => ?_)
  refine lv_aload_n hx hb dJ7_fill_53178_2 rfl (lv_at hl 1 rfl) ?_
  refine nzWX_Edges_shared hc hP dJ7_fill_53178_3 ?_
  refine lv_istore_n (lv' := [(3, .int (Int32.ofInt (256 : Int))), (2, .int (Int32.ofInt (0 : Int))), (0, .ref (a 20)), (1, .int (Int32.ofInt v1))]) hx hb dJ7_fill_53178_4 rfl hl (by decide) rfl (fun ls hl => ?_)
  exact t_J7_fill_shared_p5 hc hr FU S v1 (0 : Int) (256 : Int) h H locs ls hP hS (lv_sub hl [2, 3, 1, 0] rfl)
abbrev rm_J7_fill_shared : Room := { frames := 0, cells := 0, slots := 0, locals := 0 }
theorem c_J7_fill_shared {l : Launch} {D : va_G} {a : Nat → Nat} {g : Nat → ClassId} {S : SZ} {v1 : Int} {z : SZ} (h : f_J7_fill_shared S v1 = some z) : MetV l D (tysWX g) (WX a g) E0 yJ7_fill_53178 cJ7_fill_53178 4 none rm_J7_fill_shared [.ref (a 20), .int (Int32.ofInt v1)] (em S) (em z) := mk_v (WX_same a g) (by decide) (em z) (Nat.le_of_ble_eq_true rfl) (fun p e s m args below meth c A Q hc hE hr => t_J7_fill_shared (z := z) hc hr S v1 h)
theorem k_J7_fill_shared : CalS yJ7_fill_53178 cJ7_fill_53178 4 none rm_J7_fill_shared 2 := ⟨q_379, q_380, q_381, by decide +kernel, rfl, rfl⟩
set_option maxHeartbeats 4000000 in
set_option maxRecDepth 100000 in
theorem t_J7_fill_quantity_p5 {z : SZ} (hc : Cx p R s m args c D (tysWX g) A (WX a g) cJ7_fill_53178 4 RJ7 0 0) (hr : Rtv p l e R s m args below meth c Q D A (WX a g) cJ7_fill_53178 (em z)) : ∀ (fu : Nat) (S : SZ) (v1 : Int) (v2 : Int) (v3 : Int), f_J7_fill_quantity_p5 fu S v1 v2 v3 = some z → Go p l e R s m args below meth c Q D A (WX a g) 4 (em S) 5 [(0, .ref (a 28)), (1, .int (Int32.ofInt v1)), (2, .int (Int32.ofInt v2)), (3, .int (Int32.ofInt v3))] [] := by
  obtain ⟨⟨hx, hb, hml, hown, hts⟩, -, -, -, hnf, hno⟩ := id hc
  intro fu
  induction fu with
  | zero =>
    intro S v1 v2 v3 h
    rw [f_J7_fill_quantity_p5] at h
    cases h
  | succ fu ih =>
    intro S v1 v2 v3 h H locs ls hP hS hl
    rw [f_J7_fill_quantity_p5] at h
    refine lv_iload_n hx hb dJ7_fill_53178_5 rfl (lv_at hl 2 rfl) ?_
    refine lv_iload_n hx hb dJ7_fill_53178_6 rfl (lv_at hl 3 rfl) ?_
    obtain ⟨h1, h⟩ := chk_at h
    obtain ⟨h2, h⟩ := chk_at h
    refine z_icmp_ge (tgt := 20) hx hb h1 h2 dJ7_fill_53178_7 (by decide) (fun hq => ?_) (fun hq => ?_)
    · replace h := if_yes hq h
      obtain rfl := Option.some.inj h
      exact hr _ _ _ _ dJ7_fill_53178_20 hP hS
    · replace h := if_no hq h
      refine lv_aload_n hx hb dJ7_fill_53178_10 rfl (lv_at hl 0 rfl) ?_
      refine lv_iload_n hx hb dJ7_fill_53178_11 rfl (lv_at hl 2 rfl) ?_
      refine lv_iload_n hx hb dJ7_fill_53178_12 rfl (lv_at hl 1 rfl) ?_
      obtain ⟨h3, h⟩ := chk_at h
      refine szWX_Cuts_quantity hc hP hS h3 dJ7_fill_53178_13 (fun H locs hP hS => ?_)
      obtain ⟨S4, eS4⟩ : ∃ z, z = ua S 17 (v2).toNat v1 := ⟨_, rfl⟩
      replace h := olet_at eS4 h
      rw [← eS4] at hP
      obtain ⟨x5, ex5⟩ : ∃ y : Int, y = v2 + (1 : Int) := ⟨_, rfl⟩
      replace h := olet_at ex5 h
      refine lv_iinc (v := Int32.ofInt x5) (lv' := [(2, .int (Int32.ofInt x5)), (0, .ref (a 28)), (1, .int (Int32.ofInt v1)), (3, .int (Int32.ofInt v3))]) hx hb dJ7_fill_53178_14 hl (k := 2) rfl (by rw [ex5, Int32.ofInt_add]) (by decide) rfl (fun ls hl => ?_)
      refine lv_goto (tgt := 5) hx hb dJ7_fill_53178_17 (by decide) ?_
      exact ih S4 v1 x5 v3 h H locs ls hP hS (lv_sub hl [1, 2, 0, 3] rfl)
set_option maxHeartbeats 4000000 in
set_option maxRecDepth 100000 in
theorem t_J7_fill_quantity {z : SZ} (hc : Cx p R s m args c D (tysWX g) A (WX a g) cJ7_fill_53178 4 RJ7 0 0) (hr : Rtv p l e R s m args below meth c Q D A (WX a g) cJ7_fill_53178 (em z)) : ∀ (S : SZ) (v1 : Int), f_J7_fill_quantity S v1 = some z → Go p l e R s m args below meth c Q D A (WX a g) 4 (em S) 0 [(0, .ref (a 28)), (1, .int (Int32.ofInt v1))] [] := by
  obtain ⟨⟨hx, hb, hml, hown, hts⟩, -, -, -, hnf, hno⟩ := id hc
  intro S v1 h H locs ls hP hS hl
  rw [f_J7_fill_quantity] at h
  replace hl : lv_has ls 4 [(0, .ref (a 28)), (1, .int (Int32.ofInt v1))] := hl
  refine lv_iconst (v := Int32.ofInt (0 : Int)) hx hb dJ7_fill_53178_0 (by decide) ?_
  refine lv_istore_n (lv' := [(2, .int (Int32.ofInt (0 : Int))), (0, .ref (a 28)), (1, .int (Int32.ofInt v1))]) hx hb dJ7_fill_53178_1 rfl hl (by decide) rfl (fun ls hl => ?_)
  refine lv_aload_n hx hb dJ7_fill_53178_2 rfl (lv_at hl 1 rfl) ?_
  refine nzWX_Cuts_quantity hc hP dJ7_fill_53178_3 ?_
  refine lv_istore_n (lv' := [(3, .int (Int32.ofInt (50 : Int))), (2, .int (Int32.ofInt (0 : Int))), (0, .ref (a 28)), (1, .int (Int32.ofInt v1))]) hx hb dJ7_fill_53178_4 rfl hl (by decide) rfl (fun ls hl => ?_)
  exact t_J7_fill_quantity_p5 hc hr FU S v1 (0 : Int) (50 : Int) h H locs ls hP hS (lv_sub hl [2, 3, 1, 0] rfl)
abbrev rm_J7_fill_quantity : Room := { frames := 0, cells := 0, slots := 0, locals := 0 }
theorem c_J7_fill_quantity {l : Launch} {D : va_G} {a : Nat → Nat} {g : Nat → ClassId} {S : SZ} {v1 : Int} {z : SZ} (h : f_J7_fill_quantity S v1 = some z) : MetV l D (tysWX g) (WX a g) E0 yJ7_fill_53178 cJ7_fill_53178 4 none rm_J7_fill_quantity [.ref (a 28), .int (Int32.ofInt v1)] (em S) (em z) := mk_v (WX_same a g) (by decide) (em z) (Nat.le_of_ble_eq_true rfl) (fun p e s m args below meth c A Q hc hE hr => t_J7_fill_quantity (z := z) hc hr S v1 h)
theorem k_J7_fill_quantity : CalS yJ7_fill_53178 cJ7_fill_53178 4 none rm_J7_fill_quantity 2 := ⟨q_379, q_380, q_381, by decide +kernel, rfl, rfl⟩
end W
