section W
variable {p : Program} {l : Launch} {e : Env} {R : Room} {s : State} {m : MethodId} {args : Array Value} {below : List Frame} {meth : Method} {c : Code} {Q : State → Prop} {D : va_G} {A : Nat → Prop} {a : Nat → Nat} {g : Nat → ClassId}
set_option maxHeartbeats 4000000 in
set_option maxRecDepth 100000 in
theorem t_X5_rebuild_p95 {z : SZ} (hc : Cx p R s m args c D (tysWX g) A (WX a g) cX5_rebuild 6 RX5 4 111) (hr : Rtv p l e R s m args below meth c Q D A (WX a g) cX5_rebuild (em z)) {k18 : SZ → Int → Option (SZ)} (K18 : ∀ (S : SZ) (v4 : Int), k18 S v4 = some z → Go p l e R s m args below meth c Q D A (WX a g) 6 (em S) 18 [(0, .ref (a 5)), (1, .ref (a 3)), (2, .ref (a 4)), (3, .ref (a 2)), (4, .int (Int32.ofInt v4))] []) : ∀ (fu : Nat) (S : SZ) (v4 : Int) (v5 : Int), f_X5_rebuild_p95 k18 fu S v4 v5 = some z → Go p l e R s m args below meth c Q D A (WX a g) 6 (em S) 95 [(0, .ref (a 5)), (1, .ref (a 3)), (2, .ref (a 4)), (3, .ref (a 2)), (4, .int (Int32.ofInt v4)), (5, .int (Int32.ofInt v5))] [] := by
  obtain ⟨⟨hx, hb, hml, hown, hts⟩, -, -, -, hnf, hno⟩ := id hc
  intro fu
  induction fu with
  | zero =>
    intro S v4 v5 h
    rw [f_X5_rebuild_p95] at h
    cases h
  | succ fu ih =>
    intro S v4 v5 h H locs ls hP hS hl
    rw [f_X5_rebuild_p95] at h
    refine lv_iload hx hb dX5_rebuild_95 (lv_at hl 5 rfl) ?_
    refine lv_aload_n hx hb dX5_rebuild_97 rfl (lv_at hl 0 rfl) ?_
    refine gfWX_Pieces_count hc hP q_84 dX5_rebuild_98 ?_
    refine lv_iload hx hb dX5_rebuild_101 (lv_at hl 4 rfl) ?_
    obtain ⟨h1, h⟩ := chk_at h
    refine azWX_Pieces_count hc hP h1 dX5_rebuild_103 ?_
    obtain ⟨h2, h⟩ := chk_at h
    obtain ⟨h3, h⟩ := chk_at h
    refine z_icmp_ge (tgt := 131) hx hb h2 h3 dX5_rebuild_104 (by decide) (fun hq => ?_) (fun hq => ?_)
    · replace h := if_yes hq h
      obtain ⟨x4, ex4⟩ : ∃ y : Int, y = v4 + (1 : Int) := ⟨_, rfl⟩
      replace h := olet_at ex4 h
      refine lv_iinc (v := Int32.ofInt x4) (lv' := [(4, .int (Int32.ofInt x4)), (0, .ref (a 5)), (1, .ref (a 3)), (2, .ref (a 4)), (3, .ref (a 2)), (5, .int (Int32.ofInt v5))]) hx hb dX5_rebuild_131 hl (k := 4) rfl (by rw [ex4, Int32.ofInt_add]) (by decide) rfl (fun ls hl => ?_)
      refine lv_goto (tgt := 18) hx hb dX5_rebuild_134 (by decide) ?_
      exact K18 S x4 h H locs ls hP hS (lv_sub hl [1, 2, 3, 4, 0] rfl)
    · replace h := if_no hq h
      refine lv_aload_n hx hb dX5_rebuild_107 rfl (lv_at hl 0 rfl) ?_
      refine lv_aload_n hx hb dX5_rebuild_108 rfl (lv_at hl 0 rfl) ?_
      refine gzWX_Pieces_greatest hc hP q_423 dX5_rebuild_109 ?_
      refine lv_aload_n hx hb dX5_rebuild_112 rfl (lv_at hl 2 rfl) ?_
      refine gfWX_Cuts_quantity hc hP q_426 dX5_rebuild_113 ?_
      refine lv_iload hx hb dX5_rebuild_116 (lv_at hl 5 rfl) ?_
      obtain ⟨h5, h⟩ := chk_at h
      refine azWX_Cuts_quantity hc hP h5 dX5_rebuild_118 ?_
      obtain ⟨h6, h⟩ := chk_at h
      obtain ⟨h7, h⟩ := chk_at h
      refine z_mmax hx hb (hml.trans hl.1.symm) hown (hts _ q_427) (hts _ q_392) (hts _ q_389) (hts _ q_393) (Nat.le_trans (Nat.le_of_ble_eq_true rfl) hnf) (Nat.le_trans (Nat.le_of_ble_eq_true rfl) hno) h6 h7 dX5_rebuild_119 ?_
      refine pzWX_Pieces_greatest hc hP hS q_423 dX5_rebuild_122 (fun H locs hP hS => ?_)
      obtain ⟨S8, eS8⟩ : ∃ z, z = ui S 15 (if (zi S 15) < (za S 17 (v5).toNat) then (za S 17 (v5).toNat) else (zi S 15)) := ⟨_, rfl⟩
      replace h := olet_at eS8 h
      rw [← eS8] at hP
      obtain ⟨x9, ex9⟩ : ∃ y : Int, y = v5 + (1 : Int) := ⟨_, rfl⟩
      replace h := olet_at ex9 h
      refine lv_iinc (v := Int32.ofInt x9) (lv' := [(5, .int (Int32.ofInt x9)), (0, .ref (a 5)), (1, .ref (a 3)), (2, .ref (a 4)), (3, .ref (a 2)), (4, .int (Int32.ofInt v4))]) hx hb dX5_rebuild_125 hl (k := 5) rfl (by rw [ex9, Int32.ofInt_add]) (by decide) rfl (fun ls hl => ?_)
      refine lv_goto (tgt := 95) hx hb dX5_rebuild_128 (by decide) ?_
      exact ih S8 v4 x9 h H locs ls hP hS (lv_sub hl [1, 2, 3, 4, 5, 0] rfl)
set_option maxHeartbeats 4000000 in
set_option maxRecDepth 100000 in
theorem t_X5_rebuild_p18 {z : SZ} (hc : Cx p R s m args c D (tysWX g) A (WX a g) cX5_rebuild 6 RX5 4 111) (hr : Rtv p l e R s m args below meth c Q D A (WX a g) cX5_rebuild (em z)) : ∀ (fu : Nat) (S : SZ) (v4 : Int), f_X5_rebuild_p18 fu S v4 = some z → Go p l e R s m args below meth c Q D A (WX a g) 6 (em S) 18 [(0, .ref (a 5)), (1, .ref (a 3)), (2, .ref (a 4)), (3, .ref (a 2)), (4, .int (Int32.ofInt v4))] [] := by
  obtain ⟨⟨hx, hb, hml, hown, hts⟩, -, -, -, hnf, hno⟩ := id hc
  intro fu
  induction fu with
  | zero =>
    intro S v4 h
    rw [f_X5_rebuild_p18] at h
    cases h
  | succ fu ih =>
    intro S v4 h H locs ls hP hS hl
    rw [f_X5_rebuild_p18] at h
    refine lv_iload hx hb dX5_rebuild_18 (lv_at hl 4 rfl) ?_
    refine lv_aload_n hx hb dX5_rebuild_20 rfl (lv_at hl 1 rfl) ?_
    refine gzWX_Edges_count hc hP q_424 dX5_rebuild_21 ?_
    obtain ⟨h1, h⟩ := chk_at h
    obtain ⟨h2, h⟩ := chk_at h
    refine z_icmp_ge (tgt := 137) hx hb h1 h2 dX5_rebuild_24 (by decide) (fun hq => ?_) (fun hq => ?_)
    · replace h := if_yes hq h
      obtain rfl := Option.some.inj h
      exact hr _ _ _ _ dX5_rebuild_137 hP hS
    · replace h := if_no hq h
      refine lv_aload_n hx hb dX5_rebuild_27 rfl (lv_at hl 2 rfl) ?_
      refine lv_iload hx hb dX5_rebuild_28 (lv_at hl 4 rfl) ?_
      refine lv_aload_n hx hb dX5_rebuild_30 rfl (lv_at hl 1 rfl) ?_
      refine lv_aload_n hx hb dX5_rebuild_31 rfl (lv_at hl 3 rfl) ?_
      obtain ⟨S3, hk4, h⟩ := ob1_at h
      refine cl_Vv (As := [.int (Int32.ofInt v4), .ref (a 3), .ref (a 2)]) (rest := []) hc k_X0_load q_428 (c_X0_load hk4) hP hS (WX_4 a g (em S)) rfl rfl rfl hl (Nat.le_of_ble_eq_true rfl) dX5_rebuild_32 (Nat.le_of_ble_eq_true rfl) (Nat.le_of_ble_eq_true rfl) rfl (fun H locs hP hS => ?_)
      refine lv_aload_n hx hb dX5_rebuild_35 rfl (lv_at hl 0 rfl) ?_
      refine gfWX_Pieces_count hc hP q_84 dX5_rebuild_36 ?_
      refine lv_iload hx hb dX5_rebuild_39 (lv_at hl 4 rfl) ?_
      refine lv_aload_n hx hb dX5_rebuild_41 rfl (lv_at hl 2 rfl) ?_
      obtain ⟨S5, x7, hk6, h⟩ := ob2_at h
      refine cl_Vi (As := []) (rest := [.int (Int32.ofInt v4), .ref (a 29)]) hc k_X0_pieceCount q_477 (c_X0_pieceCount hk6) hP hS (WX_4 a g (em S3)) rfl rfl rfl hl (Nat.le_of_ble_eq_true rfl) dX5_rebuild_42 (Nat.le_of_ble_eq_true rfl) (Nat.le_of_ble_eq_true rfl) rfl (fun H locs hP hS => ?_)
      obtain ⟨h8, h⟩ := chk_at h
      refine szWX_Pieces_count hc hP hS h8 dX5_rebuild_45 (fun H locs hP hS => ?_)
      obtain ⟨S9, eS9⟩ : ∃ z, z = ua S5 18 (v4).toNat x7 := ⟨_, rfl⟩
      replace h := olet_at eS9 h
      rw [← eS9] at hP
      refine lv_aload_n hx hb dX5_rebuild_46 rfl (lv_at hl 0 rfl) ?_
      refine gfWX_Pieces_visible hc hP q_85 dX5_rebuild_47 ?_
      refine lv_iload hx hb dX5_rebuild_50 (lv_at hl 4 rfl) ?_
      refine lv_aload_n hx hb dX5_rebuild_52 rfl (lv_at hl 2 rfl) ?_
      refine gzWX_Cuts_visible hc hP q_425 dX5_rebuild_53 ?_
      refine szWX_Pieces_visible hc hP hS h8 dX5_rebuild_56 (fun H locs hP hS => ?_)
      obtain ⟨S10, eS10⟩ : ∃ z, z = ub S9 3 (v4).toNat (zl S9 0) := ⟨_, rfl⟩
      replace h := olet_at eS10 h
      rw [← eS10] at hP
      refine lv_aload_n hx hb dX5_rebuild_57 rfl (lv_at hl 0 rfl) ?_
      refine lv_dup hx hb dX5_rebuild_58 rfl ?_
      refine gzWX_Pieces_all hc hP q_421 dX5_rebuild_59 ?_
      refine lv_aload_n hx hb dX5_rebuild_62 rfl (lv_at hl 0 rfl) ?_
      refine gfWX_Pieces_count hc hP q_84 dX5_rebuild_63 ?_
      refine lv_iload hx hb dX5_rebuild_66 (lv_at hl 4 rfl) ?_
      refine azWX_Pieces_count hc hP h8 dX5_rebuild_68 ?_
      refine z_iadd hx hb dX5_rebuild_69 ?_
      refine pzWX_Pieces_all hc hP hS q_421 dX5_rebuild_70 (fun H locs hP hS => ?_)
      obtain ⟨S11, eS11⟩ : ∃ z, z = ui S10 13 ((zi S10 13) + (za S10 18 (v4).toNat)) := ⟨_, rfl⟩
      replace h := olet_at eS11 h
      rw [← eS11] at hP
      refine lv_aload_n hx hb dX5_rebuild_73 rfl (lv_at hl 0 rfl) ?_
      refine lv_dup hx hb dX5_rebuild_74 rfl ?_
      refine gzWX_Pieces_allVisible hc hP q_422 dX5_rebuild_75 ?_
      refine lv_aload_n hx hb dX5_rebuild_78 rfl (lv_at hl 0 rfl) ?_
      refine gfWX_Pieces_visible hc hP q_85 dX5_rebuild_79 ?_
      refine lv_iload hx hb dX5_rebuild_82 (lv_at hl 4 rfl) ?_
      refine azWX_Pieces_visible hc hP h8 dX5_rebuild_84 ?_
      obtain ⟨S12, x14, hk13, h⟩ := ob2_at h
      refine cl_Si (As := [.long (Int64.ofInt (zb S11 3 (v4).toNat))]) (rest := [.int (Int32.ofInt (zi S11 14)), .ref (a 5)]) hc k_J13_bitCount q_481 (c_J13_bitCount hk13) hP hS rfl hl (Nat.le_of_ble_eq_true rfl) dX5_rebuild_85 (Nat.le_of_ble_eq_true rfl) (Nat.le_of_ble_eq_true rfl) rfl (fun H locs hP hS => ?_)
      refine z_iadd hx hb dX5_rebuild_88 ?_
      refine pzWX_Pieces_allVisible hc hP hS q_422 dX5_rebuild_89 (fun H locs hP hS => ?_)
      obtain ⟨S15, eS15⟩ : ∃ z, z = ui S12 14 ((zi S11 14) + x14) := ⟨_, rfl⟩
      replace h := olet_at eS15 h
      rw [← eS15] at hP
      refine lv_iconst (v := Int32.ofInt (0 : Int)) hx hb dX5_rebuild_92 (by decide) ?_
      refine lv_istore (lv' := [(5, .int (Int32.ofInt (0 : Int))), (0, .ref (a 5)), (1, .ref (a 3)), (2, .ref (a 4)), (3, .ref (a 2)), (4, .int (Int32.ofInt v4))]) hx hb dX5_rebuild_93 hl (by decide) rfl (fun ls hl => ?_)
      exact t_X5_rebuild_p95 hc hr ih FU S15 v4 (0 : Int) h H locs ls hP hS (lv_sub hl [1, 2, 3, 4, 5, 0] rfl)
set_option maxHeartbeats 4000000 in
set_option maxRecDepth 100000 in
theorem t_X5_rebuild {z : SZ} (hc : Cx p R s m args c D (tysWX g) A (WX a g) cX5_rebuild 6 RX5 4 111) (hr : Rtv p l e R s m args below meth c Q D A (WX a g) cX5_rebuild (em z)) : ∀ (S : SZ), f_X5_rebuild S = some z → Go p l e R s m args below meth c Q D A (WX a g) 6 (em S) 0 [(0, .ref (a 5)), (1, .ref (a 3)), (2, .ref (a 4)), (3, .ref (a 2))] [] := by
  obtain ⟨⟨hx, hb, hml, hown, hts⟩, -, -, -, hnf, hno⟩ := id hc
  intro S h H locs ls hP hS hl
  rw [f_X5_rebuild] at h
  replace hl : lv_has ls 6 [(0, .ref (a 5)), (1, .ref (a 3)), (2, .ref (a 4)), (3, .ref (a 2))] := hl
  refine lv_aload_n hx hb dX5_rebuild_0 rfl (lv_at hl 0 rfl) ?_
  refine lv_iconst (v := Int32.ofInt (0 : Int)) hx hb dX5_rebuild_1 (by decide) ?_
  refine pzWX_Pieces_all hc hP hS q_421 dX5_rebuild_2 (fun H locs hP hS => ?_)
  obtain ⟨S1, eS1⟩ : ∃ z, z = ui S 13 (0 : Int) := ⟨_, rfl⟩
  replace h := olet_at eS1 h
  rw [← eS1] at hP
  refine lv_aload_n hx hb dX5_rebuild_5 rfl (lv_at hl 0 rfl) ?_
  refine lv_iconst (v := Int32.ofInt (0 : Int)) hx hb dX5_rebuild_6 (by decide) ?_
  refine pzWX_Pieces_allVisible hc hP hS q_422 dX5_rebuild_7 (fun H locs hP hS => ?_)
  obtain ⟨S2, eS2⟩ : ∃ z, z = ui S1 14 (0 : Int) := ⟨_, rfl⟩
  replace h := olet_at eS2 h
  rw [← eS2] at hP
  refine lv_aload_n hx hb dX5_rebuild_10 rfl (lv_at hl 0 rfl) ?_
  refine lv_iconst (v := Int32.ofInt (0 : Int)) hx hb dX5_rebuild_11 (by decide) ?_
  refine pzWX_Pieces_greatest hc hP hS q_423 dX5_rebuild_12 (fun H locs hP hS => ?_)
  obtain ⟨S3, eS3⟩ : ∃ z, z = ui S2 15 (0 : Int) := ⟨_, rfl⟩
  replace h := olet_at eS3 h
  rw [← eS3] at hP
  refine lv_iconst (v := Int32.ofInt (0 : Int)) hx hb dX5_rebuild_15 (by decide) ?_
  refine lv_istore (lv' := [(4, .int (Int32.ofInt (0 : Int))), (0, .ref (a 5)), (1, .ref (a 3)), (2, .ref (a 4)), (3, .ref (a 2))]) hx hb dX5_rebuild_16 hl (by decide) rfl (fun ls hl => ?_)
  exact t_X5_rebuild_p18 hc hr FU S3 (0 : Int) h H locs ls hP hS (lv_sub hl [1, 2, 3, 4, 0] rfl)
abbrev rm_X5_rebuild : Room := { frames := 4, cells := 0, slots := 0, locals := 111 }
theorem c_X5_rebuild {l : Launch} {D : va_G} {a : Nat → Nat} {g : Nat → ClassId} {S : SZ} {z : SZ} (h : f_X5_rebuild S = some z) : MetV l D (tysWX g) (WX a g) E0 yX5_rebuild cX5_rebuild 6 none rm_X5_rebuild [.ref (a 5), .ref (a 3), .ref (a 4), .ref (a 2)] (em S) (em z) := mk_v (WX_same a g) (by decide) (em z) (Nat.le_of_ble_eq_true rfl) (fun p e s m args below meth c A Q hc hE hr => t_X5_rebuild (z := z) hc hr S h)
theorem k_X5_rebuild : CalV RX5 yX5_rebuild cX5_rebuild 6 none rm_X5_rebuild 3 := ⟨q_418, q_419, q_30, q_420, by decide +kernel, rfl, rfl⟩
end W
