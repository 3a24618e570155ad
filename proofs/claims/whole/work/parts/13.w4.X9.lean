section W
variable {p : Program} {l : Launch} {e : Env} {R : Room} {s : State} {m : MethodId} {args : Array Value} {below : List Frame} {meth : Method} {c : Code} {Q : State → Prop} {D : va_G} {A : Nat → Prop} {a : Nat → Nat} {g : Nat → ClassId}
set_option maxHeartbeats 4000000 in
set_option maxRecDepth 100000 in
theorem t_X9_stroke {z : SZ × Int} (hc : Cx p R s m args c D (tysWM g) A (WM a g) cX9_stroke 5 RX9 9 227) (hr : Rti p l e R s m args below meth c Q D A (WM a g) cX9_stroke (em z.1, Int32.ofInt z.2)) : ∀ (S : SZ) (v1 : Int) (v2 : Int), f_X9_stroke S v1 v2 = some z → Go p l e R s m args below meth c Q D A (WM a g) 5 (em S) 0 [(0, .ref (a 0)), (1, .int (Int32.ofInt v1)), (2, .int (Int32.ofInt v2))] [] := by
  obtain ⟨⟨hx, hb, hml, hown, hts⟩, -, -, -, hnf, hno⟩ := id hc
  intro S v1 v2 h H locs ls hP hS hl
  rw [f_X9_stroke] at h
  replace hl : lv_has ls 5 [(0, .ref (a 0)), (1, .int (Int32.ofInt v1)), (2, .int (Int32.ofInt v2))] := hl
  refine lv_aload_n hx hb dX9_stroke_0 rfl (lv_at hl 0 rfl) ?_
  refine lv_iload_n hx hb dX9_stroke_1 rfl (lv_at hl 1 rfl) ?_
  obtain ⟨S1, x3, hk2, h⟩ := ob2_at h
  refine cl_Vi (As := [.int (Int32.ofInt v1)]) (rest := []) hc k_X9_isStroke q_791 (c_X9_isStroke hk2) hP hS (WM_0 a g (em S)) rfl rfl rfl hl (Nat.le_of_ble_eq_true rfl) dX9_stroke_2 (Nat.le_of_ble_eq_true rfl) (Nat.le_of_ble_eq_true rfl) rfl (fun H locs hP hS => ?_)
  obtain ⟨h4, h⟩ := chk_at h
  refine z_if_ne (tgt := 10) hx hb h4 dX9_stroke_5 (by decide) (fun hq => ?_) (fun hq => ?_)
  · replace h := if_no hq h
    refine lv_aload_n hx hb dX9_stroke_10 rfl (lv_at hl 0 rfl) ?_
    refine gfWM_HiddenEdgesModel_strokeAt hc hP q_116 dX9_stroke_11 ?_
    refine lv_iload_n hx hb dX9_stroke_14 rfl (lv_at hl 1 rfl) ?_
    obtain ⟨h5, h⟩ := chk_at h
    refine azWM_HiddenEdgesModel_strokeAt hc hP h5 dX9_stroke_15 ?_
    refine z_topi (fun x6 ex6 => ?_)
    replace h := olet_at ex6 h
    refine lv_istore_n (lv' := [(3, .int (Int32.ofInt x6)), (0, .ref (a 0)), (1, .int (Int32.ofInt v1)), (2, .int (Int32.ofInt v2))]) hx hb dX9_stroke_16 rfl hl (by decide) rfl (fun ls hl => ?_)
    refine lv_aload_n hx hb dX9_stroke_17 rfl (lv_at hl 1 rfl) ?_
    refine gfWM_HiddenEdgesModel_strokeAt hc hP q_116 dX9_stroke_18 ?_
    refine lv_iload_n hx hb dX9_stroke_21 rfl (lv_at hl 2 rfl) ?_
    refine lv_iconst (v := Int32.ofInt (1 : Int)) hx hb dX9_stroke_22 (by decide) ?_
    refine z_iadd hx hb dX9_stroke_23 ?_
    obtain ⟨h7, h⟩ := chk_at h
    refine azWM_HiddenEdgesModel_strokeAt hc hP h7 dX9_stroke_24 ?_
    refine lv_iconst (v := Int32.ofInt (1 : Int)) hx hb dX9_stroke_25 (by decide) ?_
    refine z_isub hx hb dX9_stroke_26 ?_
    refine z_topi (fun x8 ex8 => ?_)
    replace h := olet_at ex8 h
    refine lv_istore (lv' := [(4, .int (Int32.ofInt x8)), (3, .int (Int32.ofInt x6)), (0, .ref (a 0)), (1, .int (Int32.ofInt v1)), (2, .int (Int32.ofInt v2))]) hx hb dX9_stroke_27 hl (by decide) rfl (fun ls hl => ?_)
    refine lv_iload_n hx hb dX9_stroke_29 rfl (lv_at hl 4 rfl) ?_
    obtain ⟨h9, h⟩ := chk_at h
    by_cases hsw : v2 < 0 ∨ 2 < v2
    · replace h := if_yes hsw h
      refine lv_tableOut (tgt := 120) hx hb dX9_stroke_30 (by rw [o32 h9]; exact hsw) (by decide) ?_
      refine lv_bipush (v := Int32.ofInt (-2 : Int)) hx hb dX9_stroke_120 (by decide) ?_
      obtain rfl := Option.some.inj h
      exact hr _ _ _ _ dX9_stroke_122 hP hS
    replace h := if_no hsw h
    by_cases hs0 : v2 = 0
    · replace h := if_yes hs0 h
      refine lv_tableIn (off := 26) (tgt := 56) hx hb dX9_stroke_30 (by rw [o32 h9]; exact fun h9 => hsw (Or.inl h9)) (by rw [o32 h9]; exact fun h9 => hsw (Or.inr h9)) (by rw [o32 h9, hs0]; rfl) (by decide) ?_
      refine lv_iload hx hb dX9_stroke_56 (lv_at hl 0 rfl) ?_
      refine lv_iload_n hx hb dX9_stroke_58 rfl (lv_at hl 1 rfl) ?_
      refine z_isub hx hb dX9_stroke_59 ?_
      refine lv_iconst (v := Int32.ofInt (1 : Int)) hx hb dX9_stroke_60 (by decide) ?_
      refine z_iadd hx hb dX9_stroke_61 ?_
      obtain rfl := Option.some.inj h
      exact hr _ _ _ _ dX9_stroke_62 hP hS
    replace h := if_no hs0 h
    by_cases hs1 : v2 = 1
    · replace h := if_yes hs1 h
      refine lv_tableIn (off := 33) (tgt := 63) hx hb dX9_stroke_30 (by rw [o32 h9]; exact fun h9 => hsw (Or.inl h9)) (by rw [o32 h9]; exact fun h9 => hsw (Or.inr h9)) (by rw [o32 h9, hs1]; rfl) (by decide) ?_
      refine lv_aload_n hx hb dX9_stroke_63 rfl (lv_at hl 2 rfl) ?_
      refine lv_aload_n hx hb dX9_stroke_64 rfl (lv_at hl 2 rfl) ?_
      refine gfWM_HiddenEdgesModel_laidEdge hc hP q_117 dX9_stroke_65 ?_
      refine lv_iload_n hx hb dX9_stroke_68 rfl (lv_at hl 1 rfl) ?_
      obtain ⟨h10, h⟩ := chk_at h
      refine azWM_HiddenEdgesModel_laidEdge hc hP h10 dX9_stroke_69 ?_
      refine lv_aload_n hx hb dX9_stroke_70 rfl (lv_at hl 2 rfl) ?_
      refine gfWM_HiddenEdgesModel_laidPiece hc hP q_118 dX9_stroke_71 ?_
      refine lv_iload_n hx hb dX9_stroke_74 rfl (lv_at hl 1 rfl) ?_
      refine azWM_HiddenEdgesModel_laidPiece hc hP h10 dX9_stroke_75 ?_
      refine lv_aload_n hx hb dX9_stroke_76 rfl (lv_at hl 2 rfl) ?_
      refine gfWM_HiddenEdgesModel_laidOn hc hP q_120 dX9_stroke_77 ?_
      refine lv_iload_n hx hb dX9_stroke_80 rfl (lv_at hl 1 rfl) ?_
      refine azWM_HiddenEdgesModel_laidOn hc hP h10 dX9_stroke_81 ?_
      obtain ⟨h11, h⟩ := chk_at h
      refine z_if_ne (tgt := 89) hx hb h11 dX9_stroke_82 (by decide) (fun hq => ?_) (fun hq => ?_)
      · replace h := if_no hq h
        refine lv_iconst (v := Int32.ofInt (0 : Int)) hx hb dX9_stroke_89 (by decide) ?_
        obtain ⟨S12, x14, hk13, h⟩ := ob2_at h
        refine cl_Vi (As := [.int (Int32.ofInt (za S1 15 (x6).toNat)), .int (Int32.ofInt (za S1 16 (x6).toNat)), .int (Int32.ofInt (0 : Int))]) (rest := []) hc k_X9_endOf q_616 (c_X9_endOf hk13) hP hS (WM_0 a g (em S1)) rfl rfl rfl hl (Nat.le_of_ble_eq_true rfl) dX9_stroke_90 (Nat.le_of_ble_eq_true rfl) (Nat.le_of_ble_eq_true rfl) rfl (fun H locs hP hS => ?_)
        obtain rfl := Option.some.inj h
        exact hr _ _ _ _ dX9_stroke_93 hP hS
      · replace h := if_yes hq h
        refine lv_iconst (v := Int32.ofInt (1 : Int)) hx hb dX9_stroke_85 (by decide) ?_
        refine lv_goto (tgt := 90) hx hb dX9_stroke_86 (by decide) ?_
        obtain ⟨S15, x17, hk16, h⟩ := ob2_at h
        refine cl_Vi (As := [.int (Int32.ofInt (za S1 15 (x6).toNat)), .int (Int32.ofInt (za S1 16 (x6).toNat)), .int (Int32.ofInt (1 : Int))]) (rest := []) hc k_X9_endOf q_616 (c_X9_endOf hk16) hP hS (WM_0 a g (em S1)) rfl rfl rfl hl (Nat.le_of_ble_eq_true rfl) dX9_stroke_90 (Nat.le_of_ble_eq_true rfl) (Nat.le_of_ble_eq_true rfl) rfl (fun H locs hP hS => ?_)
        obtain rfl := Option.some.inj h
        exact hr _ _ _ _ dX9_stroke_93 hP hS
    replace h := if_no hs1 h
    by_cases hs2 : v2 = 2
    · replace h := if_yes hs2 h
      refine lv_tableIn (off := 64) (tgt := 94) hx hb dX9_stroke_30 (by rw [o32 h9]; exact fun h9 => hsw (Or.inl h9)) (by rw [o32 h9]; exact fun h9 => hsw (Or.inr h9)) (by rw [o32 h9, hs2]; rfl) (by decide) ?_
      refine lv_aload_n hx hb dX9_stroke_94 rfl (lv_at hl 2 rfl) ?_
      refine lv_aload_n hx hb dX9_stroke_95 rfl (lv_at hl 2 rfl) ?_
      refine gfWM_HiddenEdgesModel_laidEdge hc hP q_117 dX9_stroke_96 ?_
      refine lv_iload hx hb dX9_stroke_99 (lv_at hl 0 rfl) ?_
      obtain ⟨h18, h⟩ := chk_at h
      refine azWM_HiddenEdgesModel_laidEdge hc hP h18 dX9_stroke_101 ?_
      refine lv_aload_n hx hb dX9_stroke_102 rfl (lv_at hl 2 rfl) ?_
      refine gfWM_HiddenEdgesModel_laidPiece hc hP q_118 dX9_stroke_103 ?_
      refine lv_iload hx hb dX9_stroke_106 (lv_at hl 0 rfl) ?_
      refine azWM_HiddenEdgesModel_laidPiece hc hP h18 dX9_stroke_108 ?_
      refine lv_aload_n hx hb dX9_stroke_109 rfl (lv_at hl 2 rfl) ?_
      refine gfWM_HiddenEdgesModel_laidOn hc hP q_120 dX9_stroke_110 ?_
      refine lv_iload hx hb dX9_stroke_113 (lv_at hl 0 rfl) ?_
      refine azWM_HiddenEdgesModel_laidOn hc hP h18 dX9_stroke_115 ?_
      obtain ⟨S19, x21, hk20, h⟩ := ob2_at h
      refine cl_Vi (As := [.int (Int32.ofInt (za S1 15 (x8).toNat)), .int (Int32.ofInt (za S1 16 (x8).toNat)), .int (Int32.ofInt (za S1 17 (x8).toNat))]) (rest := []) hc k_X9_endOf q_616 (c_X9_endOf hk20) hP hS (WM_0 a g (em S1)) rfl rfl rfl hl (Nat.le_of_ble_eq_true rfl) dX9_stroke_116 (Nat.le_of_ble_eq_true rfl) (Nat.le_of_ble_eq_true rfl) rfl (fun H locs hP hS => ?_)
      obtain rfl := Option.some.inj h
      exact hr _ _ _ _ dX9_stroke_119 hP hS
    replace h := if_no hs2 h
    cases h
  · replace h := if_yes hq h
    refine lv_iconst (v := Int32.ofInt (-1 : Int)) hx hb dX9_stroke_8 (by decide) ?_
    obtain rfl := Option.some.inj h
    exact hr _ _ _ _ dX9_stroke_9 hP hS
abbrev rm_X9_stroke : Room := { frames := 9, cells := 0, slots := 0, locals := 227 }
theorem c_X9_stroke {l : Launch} {D : va_G} {a : Nat → Nat} {g : Nat → ClassId} {S : SZ} {v1 : Int} {v2 : Int} {Z1 : SZ} {r1 : Int} (h : f_X9_stroke S v1 v2 = some (Z1, r1)) : MetI l D (tysWM g) (WM a g) E0 yX9_stroke cX9_stroke 5 (some .int) rm_X9_stroke [.ref (a 0), .int (Int32.ofInt v1), .int (Int32.ofInt v2)] (em S) (em Z1, Int32.ofInt r1) := mk_i (WM_same a g) (by decide) (em Z1, Int32.ofInt r1) (Nat.le_of_ble_eq_true rfl) (fun p e s m args below meth c A Q hc hE hr => t_X9_stroke (z := (Z1, r1)) hc hr S v1 v2 h)
theorem k_X9_stroke : CalV RX9 yX9_stroke cX9_stroke 5 (some .int) rm_X9_stroke 2 := ⟨q_788, q_789, q_5, q_790, by decide +kernel, rfl, rfl⟩
set_option maxHeartbeats 4000000 in
set_option maxRecDepth 100000 in
theorem t_X9_strokePiece {z : SZ × Int} (hc : Cx p R s m args c D (tysWM g) A (WM a g) cX9_strokePiece 5 RX9 9 227) (hr : Rti p l e R s m args below meth c Q D A (WM a g) cX9_strokePiece (em z.1, Int32.ofInt z.2)) : ∀ (S : SZ) (v1 : Int) (v2 : Int) (v3 : Int), f_X9_strokePiece S v1 v2 v3 = some z → Go p l e R s m args below meth c Q D A (WM a g) 5 (em S) 0 [(0, .ref (a 0)), (1, .int (Int32.ofInt v1)), (2, .int (Int32.ofInt v2)), (3, .int (Int32.ofInt v3))] [] := by
  obtain ⟨⟨hx, hb, hml, hown, hts⟩, -, -, -, hnf, hno⟩ := id hc
  intro S v1 v2 v3 h H locs ls hP hS hl
  rw [f_X9_strokePiece] at h
  replace hl : lv_has ls 5 [(0, .ref (a 0)), (1, .int (Int32.ofInt v1)), (2, .int (Int32.ofInt v2)), (3, .int (Int32.ofInt v3))] := hl
  refine lv_aload_n hx hb dX9_strokePiece_0 rfl (lv_at hl 0 rfl) ?_
  refine lv_iload_n hx hb dX9_strokePiece_1 rfl (lv_at hl 1 rfl) ?_
  obtain ⟨S1, x3, hk2, h⟩ := ob2_at h
  refine cl_Vi (As := [.int (Int32.ofInt v1)]) (rest := []) hc k_X9_isStroke q_791 (c_X9_isStroke hk2) hP hS (WM_0 a g (em S)) rfl rfl rfl hl (Nat.le_of_ble_eq_true rfl) dX9_strokePiece_2 (Nat.le_of_ble_eq_true rfl) (Nat.le_of_ble_eq_true rfl) rfl (fun H locs hP hS => ?_)
  obtain ⟨h4, h⟩ := chk_at h
  refine z_if_eq (tgt := 33) hx hb h4 dX9_strokePiece_5 (by decide) (fun hq => ?_) (fun hq => ?_)
  · replace h := if_yes hq h
    refine lv_iconst (v := Int32.ofInt (-1 : Int)) hx hb dX9_strokePiece_33 (by decide) ?_
    obtain rfl := Option.some.inj h
    exact hr _ _ _ _ dX9_strokePiece_34 hP hS
  · replace h := if_no hq h
    refine lv_iload_n hx hb dX9_strokePiece_8 rfl (lv_at hl 2 rfl) ?_
    refine lv_iconst (v := Int32.ofInt (0 : Int)) hx hb dX9_strokePiece_9 (by decide) ?_
    refine lv_aload_n hx hb dX9_strokePiece_10 rfl (lv_at hl 0 rfl) ?_
    refine gfWM_HiddenEdgesModel_strokeAt hc hP q_116 dX9_strokePiece_11 ?_
    refine lv_iload_n hx hb dX9_strokePiece_14 rfl (lv_at hl 1 rfl) ?_
    refine lv_iconst (v := Int32.ofInt (1 : Int)) hx hb dX9_strokePiece_15 (by decide) ?_
    refine z_iadd hx hb dX9_strokePiece_16 ?_
    obtain ⟨h5, h⟩ := chk_at h
    refine azWM_HiddenEdgesModel_strokeAt hc hP h5 dX9_strokePiece_17 ?_
    refine lv_aload_n hx hb dX9_strokePiece_18 rfl (lv_at hl 0 rfl) ?_
    refine gfWM_HiddenEdgesModel_strokeAt hc hP q_116 dX9_strokePiece_19 ?_
    refine lv_iload_n hx hb dX9_strokePiece_22 rfl (lv_at hl 1 rfl) ?_
    obtain ⟨h6, h⟩ := chk_at h
    refine azWM_HiddenEdgesModel_strokeAt hc hP h6 dX9_strokePiece_23 ?_
    refine z_isub hx hb dX9_strokePiece_24 ?_
    refine lv_iconst (v := Int32.ofInt (1 : Int)) hx hb dX9_strokePiece_25 (by decide) ?_
    refine z_isub hx hb dX9_strokePiece_26 ?_
    obtain ⟨S7, x9, hk8, h⟩ := ob2_at h
    refine cl_Si (As := [.int (Int32.ofInt v2), .int (Int32.ofInt (0 : Int)), .int (Int32.ofInt (((za S1 14 ((v1 + (1 : Int))).toNat) - (za S1 14 (v1).toNat)) - (1 : Int)))]) (rest := []) hc k_X9_within q_158 (c_X9_within hk8) hP hS rfl hl (Nat.le_of_ble_eq_true rfl) dX9_strokePiece_27 (Nat.le_of_ble_eq_true rfl) (Nat.le_of_ble_eq_true rfl) rfl (fun H locs hP hS => ?_)
    obtain ⟨h10, h⟩ := chk_at h
    refine z_if_ne (tgt := 35) hx hb h10 dX9_strokePiece_30 (by decide) (fun hq => ?_) (fun hq => ?_)
    · replace h := if_no hq h
      refine lv_aload_n hx hb dX9_strokePiece_35 rfl (lv_at hl 0 rfl) ?_
      refine gfWM_HiddenEdgesModel_strokeAt hc hP q_116 dX9_strokePiece_36 ?_
      refine lv_iload_n hx hb dX9_strokePiece_39 rfl (lv_at hl 1 rfl) ?_
      refine azWM_HiddenEdgesModel_strokeAt hc hP h6 dX9_strokePiece_40 ?_
      refine lv_iload_n hx hb dX9_strokePiece_41 rfl (lv_at hl 2 rfl) ?_
      refine z_iadd hx hb dX9_strokePiece_42 ?_
      refine z_topi (fun x11 ex11 => ?_)
      replace h := olet_at ex11 h
      refine lv_istore (lv' := [(4, .int (Int32.ofInt x11)), (0, .ref (a 0)), (1, .int (Int32.ofInt v1)), (2, .int (Int32.ofInt v2)), (3, .int (Int32.ofInt v3))]) hx hb dX9_strokePiece_43 hl (by decide) rfl (fun ls hl => ?_)
      refine lv_iload_n hx hb dX9_strokePiece_45 rfl (lv_at hl 4 rfl) ?_
      obtain ⟨h12, h⟩ := chk_at h
      refine z_if_ne (tgt := 59) hx hb h12 dX9_strokePiece_46 (by decide) (fun hq => ?_) (fun hq => ?_)
      · replace h := if_no hq h
        refine lv_iload_n hx hb dX9_strokePiece_59 rfl (lv_at hl 4 rfl) ?_
        refine lv_iconst (v := Int32.ofInt (1 : Int)) hx hb dX9_strokePiece_60 (by decide) ?_
        refine z_icmp_ne (tgt := 74) hx hb h12 (by decide) dX9_strokePiece_61 (by decide) (fun hq => ?_) (fun hq => ?_)
        · replace h := if_no hq h
          refine lv_iload_n hx hb dX9_strokePiece_74 rfl (lv_at hl 4 rfl) ?_
          refine lv_iconst (v := Int32.ofInt (2 : Int)) hx hb dX9_strokePiece_75 (by decide) ?_
          refine z_icmp_ne (tgt := 97) hx hb h12 (by decide) dX9_strokePiece_76 (by decide) (fun hq => ?_) (fun hq => ?_)
          · replace h := if_no hq h
            refine lv_bipush (v := Int32.ofInt (-2 : Int)) hx hb dX9_strokePiece_97 (by decide) ?_
            obtain rfl := Option.some.inj h
            exact hr _ _ _ _ dX9_strokePiece_99 hP hS
          · replace h := if_yes hq h
            refine lv_aload_n hx hb dX9_strokePiece_79 rfl (lv_at hl 1 rfl) ?_
            refine gfWM_HiddenEdgesModel_laidOn hc hP q_120 dX9_strokePiece_80 ?_
            refine lv_iload hx hb dX9_strokePiece_83 (lv_at hl 0 rfl) ?_
            obtain ⟨h13, h⟩ := chk_at h
            refine azWM_HiddenEdgesModel_laidOn hc hP h13 dX9_strokePiece_85 ?_
            obtain ⟨h14, h⟩ := chk_at h
            refine z_if_eq (tgt := 93) hx hb h14 dX9_strokePiece_86 (by decide) (fun hq => ?_) (fun hq => ?_)
            · replace h := if_yes hq h
              refine lv_iconst (v := Int32.ofInt (0 : Int)) hx hb dX9_strokePiece_93 (by decide) ?_
              refine lv_goto (tgt := 99) hx hb dX9_strokePiece_94 (by decide) ?_
              obtain rfl := Option.some.inj h
              exact hr _ _ _ _ dX9_strokePiece_99 hP hS
            · replace h := if_no hq h
              refine lv_iconst (v := Int32.ofInt (1 : Int)) hx hb dX9_strokePiece_89 (by decide) ?_
              refine lv_goto (tgt := 99) hx hb dX9_strokePiece_90 (by decide) ?_
              obtain rfl := Option.some.inj h
              exact hr _ _ _ _ dX9_strokePiece_99 hP hS
        · replace h := if_yes hq h
          refine lv_aload_n hx hb dX9_strokePiece_64 rfl (lv_at hl 1 rfl) ?_
          refine gfWM_HiddenEdgesModel_laidPiece hc hP q_118 dX9_strokePiece_65 ?_
          refine lv_iload hx hb dX9_strokePiece_68 (lv_at hl 0 rfl) ?_
          obtain ⟨h15, h⟩ := chk_at h
          refine azWM_HiddenEdgesModel_laidPiece hc hP h15 dX9_strokePiece_70 ?_
          refine lv_goto (tgt := 99) hx hb dX9_strokePiece_71 (by decide) ?_
          obtain rfl := Option.some.inj h
          exact hr _ _ _ _ dX9_strokePiece_99 hP hS
      · replace h := if_yes hq h
        refine lv_aload_n hx hb dX9_strokePiece_49 rfl (lv_at hl 1 rfl) ?_
        refine gfWM_HiddenEdgesModel_laidEdge hc hP q_117 dX9_strokePiece_50 ?_
        refine lv_iload hx hb dX9_strokePiece_53 (lv_at hl 0 rfl) ?_
        obtain ⟨h16, h⟩ := chk_at h
        refine azWM_HiddenEdgesModel_laidEdge hc hP h16 dX9_strokePiece_55 ?_
        refine lv_goto (tgt := 99) hx hb dX9_strokePiece_56 (by decide) ?_
        obtain rfl := Option.some.inj h
        exact hr _ _ _ _ dX9_strokePiece_99 hP hS
    · replace h := if_yes hq h
      refine lv_iconst (v := Int32.ofInt (-1 : Int)) hx hb dX9_strokePiece_33 (by decide) ?_
      obtain rfl := Option.some.inj h
      exact hr _ _ _ _ dX9_strokePiece_34 hP hS
abbrev rm_X9_strokePiece : Room := { frames := 9, cells := 0, slots := 0, locals := 227 }
theorem c_X9_strokePiece {l : Launch} {D : va_G} {a : Nat → Nat} {g : Nat → ClassId} {S : SZ} {v1 : Int} {v2 : Int} {v3 : Int} {Z1 : SZ} {r1 : Int} (h : f_X9_strokePiece S v1 v2 v3 = some (Z1, r1)) : MetI l D (tysWM g) (WM a g) E0 yX9_strokePiece cX9_strokePiece 5 (some .int) rm_X9_strokePiece [.ref (a 0), .int (Int32.ofInt v1), .int (Int32.ofInt v2), .int (Int32.ofInt v3)] (em S) (em Z1, Int32.ofInt r1) := mk_i (WM_same a g) (by decide) (em Z1, Int32.ofInt r1) (Nat.le_of_ble_eq_true rfl) (fun p e s m args below meth c A Q hc hE hr => t_X9_strokePiece (z := (Z1, r1)) hc hr S v1 v2 v3 h)
theorem k_X9_strokePiece : CalV RX9 yX9_strokePiece cX9_strokePiece 5 (some .int) rm_X9_strokePiece 3 := ⟨q_805, q_806, q_5, q_807, by decide +kernel, rfl, rfl⟩
set_option maxHeartbeats 4000000 in
set_option maxRecDepth 100000 in
theorem t_X9_manyEdges_p4 {z : SZ × Int} (hc : Cx p R s m args c D (tysWM g) A (WM a g) cX9_manyEdges 4 RX9 2 45) (hr : Rti p l e R s m args below meth c Q D A (WM a g) cX9_manyEdges (em z.1, Int32.ofInt z.2)) : ∀ (fu : Nat) (S : SZ) (v1 : Int) (v2 : Int) (v3 : Int), f_X9_manyEdges_p4 fu S v1 v2 v3 = some z → Go p l e R s m args below meth c Q D A (WM a g) 4 (em S) 4 [(0, .ref (a 0)), (1, .int (Int32.ofInt v1)), (2, .int (Int32.ofInt v2)), (3, .int (Int32.ofInt v3))] [] := by
  obtain ⟨⟨hx, hb, hml, hown, hts⟩, -, -, -, hnf, hno⟩ := id hc
  intro fu
  induction fu with
  | zero =>
    intro S v1 v2 v3 h
    rw [f_X9_manyEdges_p4] at h
    cases h
  | succ fu ih =>
    intro S v1 v2 v3 h H locs ls hP hS hl
    rw [f_X9_manyEdges_p4] at h
    refine lv_iload_n hx hb dX9_manyEdges_4 rfl (lv_at hl 3 rfl) ?_
    refine lv_aload_n hx hb dX9_manyEdges_5 rfl (lv_at hl 0 rfl) ?_
    refine gzWM_HiddenEdgesModel_edges hc hP q_539 dX9_manyEdges_6 ?_
    obtain ⟨h1, h⟩ := chk_at h
    obtain ⟨h2, h⟩ := chk_at h
    refine z_icmp_ge (tgt := 64) hx hb h1 h2 dX9_manyEdges_9 (by decide) (fun hq => ?_) (fun hq => ?_)
    · replace h := if_yes hq h
      refine lv_iload_n hx hb dX9_manyEdges_64 rfl (lv_at hl 2 rfl) ?_
      obtain rfl := Option.some.inj h
      exact hr _ _ _ _ dX9_manyEdges_65 hP hS
    · replace h := if_no hq h
      refine lv_iload_n hx hb dX9_manyEdges_12 rfl (lv_at hl 2 rfl) ?_
      refine lv_iload_n hx hb dX9_manyEdges_13 rfl (lv_at hl 1 rfl) ?_
      refine lv_iconst (v := Int32.ofInt (4 : Int)) hx hb dX9_manyEdges_14 (by decide) ?_
      obtain ⟨h3, h⟩ := chk_at h
      refine z_icmp_ne (tgt := 26) hx hb h3 (by decide) dX9_manyEdges_15 (by decide) (fun hq => ?_) (fun hq => ?_)
      · replace h := if_no hq h
        refine lv_iload_n hx hb dX9_manyEdges_26 rfl (lv_at hl 1 rfl) ?_
        refine lv_iconst (v := Int32.ofInt (5 : Int)) hx hb dX9_manyEdges_27 (by decide) ?_
        refine z_icmp_ne (tgt := 39) hx hb h3 (by decide) dX9_manyEdges_28 (by decide) (fun hq => ?_) (fun hq => ?_)
        · replace h := if_no hq h
          refine lv_aload_n hx hb dX9_manyEdges_39 rfl (lv_at hl 0 rfl) ?_
          refine gfWM_HiddenEdgesModel_sortOf hc hP q_111 dX9_manyEdges_40 ?_
          refine lv_iload_n hx hb dX9_manyEdges_43 rfl (lv_at hl 3 rfl) ?_
          obtain ⟨h4, h⟩ := chk_at h
          refine azWM_HiddenEdgesModel_sortOf hc hP h4 dX9_manyEdges_44 ?_
          refine lv_iload_n hx hb dX9_manyEdges_45 rfl (lv_at hl 1 rfl) ?_
          refine lv_iconst (v := Int32.ofInt (4 : Int)) hx hb dX9_manyEdges_46 (by decide) ?_
          refine z_isub hx hb dX9_manyEdges_47 ?_
          obtain ⟨h5, h⟩ := chk_at h
          obtain ⟨h6, h⟩ := chk_at h
          refine z_icmp_ne (tgt := 55) hx hb h5 h6 dX9_manyEdges_48 (by decide) (fun hq => ?_) (fun hq => ?_)
          · replace h := if_no hq h
            refine lv_iconst (v := Int32.ofInt (0 : Int)) hx hb dX9_manyEdges_55 (by decide) ?_
            refine z_iadd hx hb dX9_manyEdges_56 ?_
            refine z_topi (fun x7 ex7 => ?_)
            replace h := olet_at ex7 h
            refine lv_istore_n (lv' := [(2, .int (Int32.ofInt x7)), (0, .ref (a 0)), (1, .int (Int32.ofInt v1)), (3, .int (Int32.ofInt v3))]) hx hb dX9_manyEdges_57 rfl hl (by decide) rfl (fun ls hl => ?_)
            obtain ⟨x8, ex8⟩ : ∃ y : Int, y = v3 + (1 : Int) := ⟨_, rfl⟩
            replace h := olet_at ex8 h
            refine lv_iinc (v := Int32.ofInt x8) (lv' := [(3, .int (Int32.ofInt x8)), (2, .int (Int32.ofInt x7)), (0, .ref (a 0)), (1, .int (Int32.ofInt v1))]) hx hb dX9_manyEdges_58 hl (k := 3) rfl (by rw [ex8, Int32.ofInt_add]) (by decide) rfl (fun ls hl => ?_)
            refine lv_goto (tgt := 4) hx hb dX9_manyEdges_61 (by decide) ?_
            exact ih S v1 x7 x8 h H locs ls hP hS (lv_sub hl [2, 3, 1, 0] rfl)
          · replace h := if_yes hq h
            refine lv_iconst (v := Int32.ofInt (1 : Int)) hx hb dX9_manyEdges_51 (by decide) ?_
            refine lv_goto (tgt := 56) hx hb dX9_manyEdges_52 (by decide) ?_
            refine z_iadd hx hb dX9_manyEdges_56 ?_
            refine z_topi (fun x9 ex9 => ?_)
            replace h := olet_at ex9 h
            refine lv_istore_n (lv' := [(2, .int (Int32.ofInt x9)), (0, .ref (a 0)), (1, .int (Int32.ofInt v1)), (3, .int (Int32.ofInt v3))]) hx hb dX9_manyEdges_57 rfl hl (by decide) rfl (fun ls hl => ?_)
            obtain ⟨x10, ex10⟩ : ∃ y : Int, y = v3 + (1 : Int) := ⟨_, rfl⟩
            replace h := olet_at ex10 h
            refine lv_iinc (v := Int32.ofInt x10) (lv' := [(3, .int (Int32.ofInt x10)), (2, .int (Int32.ofInt x9)), (0, .ref (a 0)), (1, .int (Int32.ofInt v1))]) hx hb dX9_manyEdges_58 hl (k := 3) rfl (by rw [ex10, Int32.ofInt_add]) (by decide) rfl (fun ls hl => ?_)
            refine lv_goto (tgt := 4) hx hb dX9_manyEdges_61 (by decide) ?_
            exact ih S v1 x9 x10 h H locs ls hP hS (lv_sub hl [2, 3, 1, 0] rfl)
        · replace h := if_yes hq h
          refine lv_aload_n hx hb dX9_manyEdges_31 rfl (lv_at hl 0 rfl) ?_
          refine lv_iload_n hx hb dX9_manyEdges_32 rfl (lv_at hl 3 rfl) ?_
          obtain ⟨S11, x13, hk12, h⟩ := ob2_at h
          refine cl_Vi (As := [.int (Int32.ofInt v3)]) (rest := [.int (Int32.ofInt v2)]) hc k_X9_seenOf q_673 (c_X9_seenOf hk12) hP hS (WM_0 a g (em S)) rfl rfl rfl hl (Nat.le_of_ble_eq_true rfl) dX9_manyEdges_33 (Nat.le_of_ble_eq_true rfl) (Nat.le_of_ble_eq_true rfl) rfl (fun H locs hP hS => ?_)
          refine lv_goto (tgt := 56) hx hb dX9_manyEdges_36 (by decide) ?_
          refine z_iadd hx hb dX9_manyEdges_56 ?_
          refine z_topi (fun x14 ex14 => ?_)
          replace h := olet_at ex14 h
          refine lv_istore_n (lv' := [(2, .int (Int32.ofInt x14)), (0, .ref (a 0)), (1, .int (Int32.ofInt v1)), (3, .int (Int32.ofInt v3))]) hx hb dX9_manyEdges_57 rfl hl (by decide) rfl (fun ls hl => ?_)
          obtain ⟨x15, ex15⟩ : ∃ y : Int, y = v3 + (1 : Int) := ⟨_, rfl⟩
          replace h := olet_at ex15 h
          refine lv_iinc (v := Int32.ofInt x15) (lv' := [(3, .int (Int32.ofInt x15)), (2, .int (Int32.ofInt x14)), (0, .ref (a 0)), (1, .int (Int32.ofInt v1))]) hx hb dX9_manyEdges_58 hl (k := 3) rfl (by rw [ex15, Int32.ofInt_add]) (by decide) rfl (fun ls hl => ?_)
          refine lv_goto (tgt := 4) hx hb dX9_manyEdges_61 (by decide) ?_
          exact ih S11 v1 x14 x15 h H locs ls hP hS (lv_sub hl [2, 3, 1, 0] rfl)
      · replace h := if_yes hq h
        refine lv_aload_n hx hb dX9_manyEdges_18 rfl (lv_at hl 0 rfl) ?_
        refine lv_iload_n hx hb dX9_manyEdges_19 rfl (lv_at hl 3 rfl) ?_
        obtain ⟨S16, x18, hk17, h⟩ := ob2_at h
        refine cl_Vi (As := [.int (Int32.ofInt v3)]) (rest := [.int (Int32.ofInt v2)]) hc k_X9_piecesOf q_600 (c_X9_piecesOf hk17) hP hS (WM_0 a g (em S)) rfl rfl rfl hl (Nat.le_of_ble_eq_true rfl) dX9_manyEdges_20 (Nat.le_of_ble_eq_true rfl) (Nat.le_of_ble_eq_true rfl) rfl (fun H locs hP hS => ?_)
        refine lv_goto (tgt := 56) hx hb dX9_manyEdges_23 (by decide) ?_
        refine z_iadd hx hb dX9_manyEdges_56 ?_
        refine z_topi (fun x19 ex19 => ?_)
        replace h := olet_at ex19 h
        refine lv_istore_n (lv' := [(2, .int (Int32.ofInt x19)), (0, .ref (a 0)), (1, .int (Int32.ofInt v1)), (3, .int (Int32.ofInt v3))]) hx hb dX9_manyEdges_57 rfl hl (by decide) rfl (fun ls hl => ?_)
        obtain ⟨x20, ex20⟩ : ∃ y : Int, y = v3 + (1 : Int) := ⟨_, rfl⟩
        replace h := olet_at ex20 h
        refine lv_iinc (v := Int32.ofInt x20) (lv' := [(3, .int (Int32.ofInt x20)), (2, .int (Int32.ofInt x19)), (0, .ref (a 0)), (1, .int (Int32.ofInt v1))]) hx hb dX9_manyEdges_58 hl (k := 3) rfl (by rw [ex20, Int32.ofInt_add]) (by decide) rfl (fun ls hl => ?_)
        refine lv_goto (tgt := 4) hx hb dX9_manyEdges_61 (by decide) ?_
        exact ih S16 v1 x19 x20 h H locs ls hP hS (lv_sub hl [2, 3, 1, 0] rfl)
set_option maxHeartbeats 4000000 in
set_option maxRecDepth 100000 in
theorem t_X9_manyEdges {z : SZ × Int} (hc : Cx p R s m args c D (tysWM g) A (WM a g) cX9_manyEdges 4 RX9 2 45) (hr : Rti p l e R s m args below meth c Q D A (WM a g) cX9_manyEdges (em z.1, Int32.ofInt z.2)) : ∀ (S : SZ) (v1 : Int), f_X9_manyEdges S v1 = some z → Go p l e R s m args below meth c Q D A (WM a g) 4 (em S) 0 [(0, .ref (a 0)), (1, .int (Int32.ofInt v1))] [] := by
  obtain ⟨⟨hx, hb, hml, hown, hts⟩, -, -, -, hnf, hno⟩ := id hc
  intro S v1 h H locs ls hP hS hl
  rw [f_X9_manyEdges] at h
  replace hl : lv_has ls 4 [(0, .ref (a 0)), (1, .int (Int32.ofInt v1))] := hl
  refine lv_iconst (v := Int32.ofInt (0 : Int)) hx hb dX9_manyEdges_0 (by decide) ?_
  refine lv_istore_n (lv' := [(2, .int (Int32.ofInt (0 : Int))), (0, .ref (a 0)), (1, .int (Int32.ofInt v1))]) hx hb dX9_manyEdges_1 rfl hl (by decide) rfl (fun ls hl => ?_)
  refine lv_iconst (v := Int32.ofInt (0 : Int)) hx hb dX9_manyEdges_2 (by decide) ?_
  refine lv_istore_n (lv' := [(3, .int (Int32.ofInt (0 : Int))), (2, .int (Int32.ofInt (0 : Int))), (0, .ref (a 0)), (1, .int (Int32.ofInt v1))]) hx hb dX9_manyEdges_3 rfl hl (by decide) rfl (fun ls hl => ?_)
  exact t_X9_manyEdges_p4 hc hr FU S v1 (0 : Int) (0 : Int) h H locs ls hP hS (lv_sub hl [2, 3, 1, 0] rfl)
abbrev rm_X9_manyEdges : Room := { frames := 2, cells := 0, slots := 0, locals := 45 }
theorem c_X9_manyEdges {l : Launch} {D : va_G} {a : Nat → Nat} {g : Nat → ClassId} {S : SZ} {v1 : Int} {Z1 : SZ} {r1 : Int} (h : f_X9_manyEdges S v1 = some (Z1, r1)) : MetI l D (tysWM g) (WM a g) E0 yX9_manyEdges cX9_manyEdges 4 (some .int) rm_X9_manyEdges [.ref (a 0), .int (Int32.ofInt v1)] (em S) (em Z1, Int32.ofInt r1) := mk_i (WM_same a g) (by decide) (em Z1, Int32.ofInt r1) (Nat.le_of_ble_eq_true rfl) (fun p e s m args below meth c A Q hc hE hr => t_X9_manyEdges (z := (Z1, r1)) hc hr S v1 h)
theorem k_X9_manyEdges : CalV RX9 yX9_manyEdges cX9_manyEdges 4 (some .int) rm_X9_manyEdges 1 := ⟨q_843, q_844, q_5, q_845, by decide +kernel, rfl, rfl⟩
set_option maxHeartbeats 4000000 in
set_option maxRecDepth 100000 in
theorem t_X9_manyLook_p4 {z : SZ × Int} (hc : Cx p R s m args c D (tysWM g) A (WM a g) cX9_manyLook 3 RX9 3 79) (hr : Rti p l e R s m args below meth c Q D A (WM a g) cX9_manyLook (em z.1, Int32.ofInt z.2)) : ∀ (fu : Nat) (S : SZ) (v1 : Int) (v2 : Int), f_X9_manyLook_p4 fu S v1 v2 = some z → Go p l e R s m args below meth c Q D A (WM a g) 3 (em S) 4 [(0, .ref (a 0)), (1, .int (Int32.ofInt v1)), (2, .int (Int32.ofInt v2))] [] := by
  obtain ⟨⟨hx, hb, hml, hown, hts⟩, -, -, -, hnf, hno⟩ := id hc
  intro fu
  induction fu with
  | zero =>
    intro S v1 v2 h
    rw [f_X9_manyLook_p4] at h
    cases h
  | succ fu ih =>
    intro S v1 v2 h H locs ls hP hS hl
    rw [f_X9_manyLook_p4] at h
    refine lv_iload_n hx hb dX9_manyLook_4 rfl (lv_at hl 2 rfl) ?_
    refine lv_aload_n hx hb dX9_manyLook_5 rfl (lv_at hl 0 rfl) ?_
    refine gzWM_HiddenEdgesModel_faces hc hP q_207 dX9_manyLook_6 ?_
    obtain ⟨h1, h⟩ := chk_at h
    obtain ⟨h2, h⟩ := chk_at h
    refine z_icmp_ge (tgt := 36) hx hb h1 h2 dX9_manyLook_9 (by decide) (fun hq => ?_) (fun hq => ?_)
    · replace h := if_yes hq h
      refine lv_iload_n hx hb dX9_manyLook_36 rfl (lv_at hl 1 rfl) ?_
      obtain rfl := Option.some.inj h
      exact hr _ _ _ _ dX9_manyLook_37 hP hS
    · replace h := if_no hq h
      refine lv_iload_n hx hb dX9_manyLook_12 rfl (lv_at hl 1 rfl) ?_
      refine lv_aload_n hx hb dX9_manyLook_13 rfl (lv_at hl 0 rfl) ?_
      refine lv_iload_n hx hb dX9_manyLook_14 rfl (lv_at hl 2 rfl) ?_
      obtain ⟨S3, x5, hk4, h⟩ := ob2_at h
      refine cl_Vl (As := [.int (Int32.ofInt v2)]) (rest := [.int (Int32.ofInt v1)]) hc k_X9_turnOf q_571 (c_X9_turnOf hk4) hP hS (WM_0 a g (em S)) rfl rfl rfl hl (Nat.le_of_ble_eq_true rfl) dX9_manyLook_15 (Nat.le_of_ble_eq_true rfl) (Nat.le_of_ble_eq_true rfl) rfl (fun H locs hP hS => ?_)
      refine lv_lconst (v := Int64.ofInt (0 : Int)) hx hb dX9_manyLook_18 (by decide) ?_
      refine W.lcmp hx hb dX9_manyLook_19 ?_
      obtain ⟨h6, h⟩ := chk_at h
      refine zc_if_le (tgt := 27) hx hb h6 (by decide) dX9_manyLook_20 (by decide) (fun hq => ?_) (fun hq => ?_)
      · replace h := if_yes hq h
        refine lv_iconst (v := Int32.ofInt (0 : Int)) hx hb dX9_manyLook_27 (by decide) ?_
        refine z_iadd hx hb dX9_manyLook_28 ?_
        refine z_topi (fun x7 ex7 => ?_)
        replace h := olet_at ex7 h
        refine lv_istore_n (lv' := [(1, .int (Int32.ofInt x7)), (0, .ref (a 0)), (2, .int (Int32.ofInt v2))]) hx hb dX9_manyLook_29 rfl hl (by decide) rfl (fun ls hl => ?_)
        obtain ⟨x8, ex8⟩ : ∃ y : Int, y = v2 + (1 : Int) := ⟨_, rfl⟩
        replace h := olet_at ex8 h
        refine lv_iinc (v := Int32.ofInt x8) (lv' := [(2, .int (Int32.ofInt x8)), (1, .int (Int32.ofInt x7)), (0, .ref (a 0))]) hx hb dX9_manyLook_30 hl (k := 2) rfl (by rw [ex8, Int32.ofInt_add]) (by decide) rfl (fun ls hl => ?_)
        refine lv_goto (tgt := 4) hx hb dX9_manyLook_33 (by decide) ?_
        exact ih S3 x7 x8 h H locs ls hP hS (lv_sub hl [2, 1, 0] rfl)
      · replace h := if_no hq h
        refine lv_iconst (v := Int32.ofInt (1 : Int)) hx hb dX9_manyLook_23 (by decide) ?_
        refine lv_goto (tgt := 28) hx hb dX9_manyLook_24 (by decide) ?_
        refine z_iadd hx hb dX9_manyLook_28 ?_
        refine z_topi (fun x9 ex9 => ?_)
        replace h := olet_at ex9 h
        refine lv_istore_n (lv' := [(1, .int (Int32.ofInt x9)), (0, .ref (a 0)), (2, .int (Int32.ofInt v2))]) hx hb dX9_manyLook_29 rfl hl (by decide) rfl (fun ls hl => ?_)
        obtain ⟨x10, ex10⟩ : ∃ y : Int, y = v2 + (1 : Int) := ⟨_, rfl⟩
        replace h := olet_at ex10 h
        refine lv_iinc (v := Int32.ofInt x10) (lv' := [(2, .int (Int32.ofInt x10)), (1, .int (Int32.ofInt x9)), (0, .ref (a 0))]) hx hb dX9_manyLook_30 hl (k := 2) rfl (by rw [ex10, Int32.ofInt_add]) (by decide) rfl (fun ls hl => ?_)
        refine lv_goto (tgt := 4) hx hb dX9_manyLook_33 (by decide) ?_
        exact ih S3 x9 x10 h H locs ls hP hS (lv_sub hl [2, 1, 0] rfl)
set_option maxHeartbeats 4000000 in
set_option maxRecDepth 100000 in
theorem t_X9_manyLook {z : SZ × Int} (hc : Cx p R s m args c D (tysWM g) A (WM a g) cX9_manyLook 3 RX9 3 79) (hr : Rti p l e R s m args below meth c Q D A (WM a g) cX9_manyLook (em z.1, Int32.ofInt z.2)) : ∀ (S : SZ), f_X9_manyLook S = some z → Go p l e R s m args below meth c Q D A (WM a g) 3 (em S) 0 [(0, .ref (a 0))] [] := by
  obtain ⟨⟨hx, hb, hml, hown, hts⟩, -, -, -, hnf, hno⟩ := id hc
  intro S h H locs ls hP hS hl
  rw [f_X9_manyLook] at h
  replace hl : lv_has ls 3 [(0, .ref (a 0))] := hl
  refine lv_iconst (v := Int32.ofInt (0 : Int)) hx hb dX9_manyLook_0 (by decide) ?_
  refine lv_istore_n (lv' := [(1, .int (Int32.ofInt (0 : Int))), (0, .ref (a 0))]) hx hb dX9_manyLook_1 rfl hl (by decide) rfl (fun ls hl => ?_)
  refine lv_iconst (v := Int32.ofInt (0 : Int)) hx hb dX9_manyLook_2 (by decide) ?_
  refine lv_istore_n (lv' := [(2, .int (Int32.ofInt (0 : Int))), (1, .int (Int32.ofInt (0 : Int))), (0, .ref (a 0))]) hx hb dX9_manyLook_3 rfl hl (by decide) rfl (fun ls hl => ?_)
  exact t_X9_manyLook_p4 hc hr FU S (0 : Int) (0 : Int) h H locs ls hP hS (lv_sub hl [2, 1, 0] rfl)
abbrev rm_X9_manyLook : Room := { frames := 3, cells := 0, slots := 0, locals := 79 }
theorem c_X9_manyLook {l : Launch} {D : va_G} {a : Nat → Nat} {g : Nat → ClassId} {S : SZ} {Z1 : SZ} {r1 : Int} (h : f_X9_manyLook S = some (Z1, r1)) : MetI l D (tysWM g) (WM a g) E0 yX9_manyLook cX9_manyLook 3 (some .int) rm_X9_manyLook [.ref (a 0)] (em S) (em Z1, Int32.ofInt r1) := mk_i (WM_same a g) (by decide) (em Z1, Int32.ofInt r1) (Nat.le_of_ble_eq_true rfl) (fun p e s m args below meth c A Q hc hE hr => t_X9_manyLook (z := (Z1, r1)) hc hr S h)
theorem k_X9_manyLook : CalV RX9 yX9_manyLook cX9_manyLook 3 (some .int) rm_X9_manyLook 0 := ⟨q_847, q_848, q_5, q_849, by decide +kernel, rfl, rfl⟩
set_option maxHeartbeats 4000000 in
set_option maxRecDepth 100000 in
theorem t_X9_manyCross_p14 {z : SZ × Int} (hc : Cx p R s m args c D (tysWM g) A (WM a g) cX9_manyCross 4 RX9 3 88) (hr : Rti p l e R s m args below meth c Q D A (WM a g) cX9_manyCross (em z.1, Int32.ofInt z.2)) {k4 : SZ → Int → Int → Option (SZ × Int)} (K4 : ∀ (S : SZ) (v1 : Int) (v2 : Int), k4 S v1 v2 = some z → Go p l e R s m args below meth c Q D A (WM a g) 4 (em S) 4 [(0, .ref (a 0)), (1, .int (Int32.ofInt v1)), (2, .int (Int32.ofInt v2))] []) : ∀ (fu : Nat) (S : SZ) (v1 : Int) (v2 : Int) (v3 : Int), f_X9_manyCross_p14 k4 fu S v1 v2 v3 = some z → Go p l e R s m args below meth c Q D A (WM a g) 4 (em S) 14 [(0, .ref (a 0)), (1, .int (Int32.ofInt v1)), (2, .int (Int32.ofInt v2)), (3, .int (Int32.ofInt v3))] [] := by
  obtain ⟨⟨hx, hb, hml, hown, hts⟩, -, -, -, hnf, hno⟩ := id hc
  intro fu
  induction fu with
  | zero =>
    intro S v1 v2 v3 h
    rw [f_X9_manyCross_p14] at h
    cases h
  | succ fu ih =>
    intro S v1 v2 v3 h H locs ls hP hS hl
    rw [f_X9_manyCross_p14] at h
    refine lv_iload_n hx hb dX9_manyCross_14 rfl (lv_at hl 3 rfl) ?_
    refine lv_iload_n hx hb dX9_manyCross_15 rfl (lv_at hl 2 rfl) ?_
    obtain ⟨h1, h⟩ := chk_at h
    obtain ⟨h2, h⟩ := chk_at h
    refine z_icmp_ge (tgt := 42) hx hb h1 h2 dX9_manyCross_16 (by decide) (fun hq => ?_) (fun hq => ?_)
    · replace h := if_yes hq h
      obtain ⟨x3, ex3⟩ : ∃ y : Int, y = v2 + (1 : Int) := ⟨_, rfl⟩
      replace h := olet_at ex3 h
      refine lv_iinc (v := Int32.ofInt x3) (lv' := [(2, .int (Int32.ofInt x3)), (0, .ref (a 0)), (1, .int (Int32.ofInt v1)), (3, .int (Int32.ofInt v3))]) hx hb dX9_manyCross_42 hl (k := 2) rfl (by rw [ex3, Int32.ofInt_add]) (by decide) rfl (fun ls hl => ?_)
      refine lv_goto (tgt := 4) hx hb dX9_manyCross_45 (by decide) ?_
      exact K4 S v1 x3 h H locs ls hP hS (lv_sub hl [1, 2, 0] rfl)
    · replace h := if_no hq h
      refine lv_iload_n hx hb dX9_manyCross_19 rfl (lv_at hl 1 rfl) ?_
      refine lv_aload_n hx hb dX9_manyCross_20 rfl (lv_at hl 0 rfl) ?_
      refine lv_iload_n hx hb dX9_manyCross_21 rfl (lv_at hl 2 rfl) ?_
      refine lv_iload_n hx hb dX9_manyCross_22 rfl (lv_at hl 3 rfl) ?_
      obtain ⟨S4, x6, hk5, h⟩ := ob2_at h
      refine cl_Vi (As := [.int (Int32.ofInt v2), .int (Int32.ofInt v3)]) (rest := [.int (Int32.ofInt v1)]) hc k_X9_cross q_762 (c_X9_cross hk5) hP hS (WM_0 a g (em S)) rfl rfl rfl hl (Nat.le_of_ble_eq_true rfl) dX9_manyCross_23 (Nat.le_of_ble_eq_true rfl) (Nat.le_of_ble_eq_true rfl) rfl (fun H locs hP hS => ?_)
      obtain ⟨h7, h⟩ := chk_at h
      refine z_if_eq (tgt := 33) hx hb h7 dX9_manyCross_26 (by decide) (fun hq => ?_) (fun hq => ?_)
      · replace h := if_yes hq h
        refine lv_iconst (v := Int32.ofInt (0 : Int)) hx hb dX9_manyCross_33 (by decide) ?_
        refine z_iadd hx hb dX9_manyCross_34 ?_
        refine z_topi (fun x8 ex8 => ?_)
        replace h := olet_at ex8 h
        refine lv_istore_n (lv' := [(1, .int (Int32.ofInt x8)), (0, .ref (a 0)), (2, .int (Int32.ofInt v2)), (3, .int (Int32.ofInt v3))]) hx hb dX9_manyCross_35 rfl hl (by decide) rfl (fun ls hl => ?_)
        obtain ⟨x9, ex9⟩ : ∃ y : Int, y = v3 + (1 : Int) := ⟨_, rfl⟩
        replace h := olet_at ex9 h
        refine lv_iinc (v := Int32.ofInt x9) (lv' := [(3, .int (Int32.ofInt x9)), (1, .int (Int32.ofInt x8)), (0, .ref (a 0)), (2, .int (Int32.ofInt v2))]) hx hb dX9_manyCross_36 hl (k := 3) rfl (by rw [ex9, Int32.ofInt_add]) (by decide) rfl (fun ls hl => ?_)
        refine lv_goto (tgt := 14) hx hb dX9_manyCross_39 (by decide) ?_
        exact ih S4 x8 v2 x9 h H locs ls hP hS (lv_sub hl [2, 1, 3, 0] rfl)
      · replace h := if_no hq h
        refine lv_iconst (v := Int32.ofInt (1 : Int)) hx hb dX9_manyCross_29 (by decide) ?_
        refine lv_goto (tgt := 34) hx hb dX9_manyCross_30 (by decide) ?_
        refine z_iadd hx hb dX9_manyCross_34 ?_
        refine z_topi (fun x10 ex10 => ?_)
        replace h := olet_at ex10 h
        refine lv_istore_n (lv' := [(1, .int (Int32.ofInt x10)), (0, .ref (a 0)), (2, .int (Int32.ofInt v2)), (3, .int (Int32.ofInt v3))]) hx hb dX9_manyCross_35 rfl hl (by decide) rfl (fun ls hl => ?_)
        obtain ⟨x11, ex11⟩ : ∃ y : Int, y = v3 + (1 : Int) := ⟨_, rfl⟩
        replace h := olet_at ex11 h
        refine lv_iinc (v := Int32.ofInt x11) (lv' := [(3, .int (Int32.ofInt x11)), (1, .int (Int32.ofInt x10)), (0, .ref (a 0)), (2, .int (Int32.ofInt v2))]) hx hb dX9_manyCross_36 hl (k := 3) rfl (by rw [ex11, Int32.ofInt_add]) (by decide) rfl (fun ls hl => ?_)
        refine lv_goto (tgt := 14) hx hb dX9_manyCross_39 (by decide) ?_
        exact ih S4 x10 v2 x11 h H locs ls hP hS (lv_sub hl [2, 1, 3, 0] rfl)
set_option maxHeartbeats 4000000 in
set_option maxRecDepth 100000 in
theorem t_X9_manyCross_p4 {z : SZ × Int} (hc : Cx p R s m args c D (tysWM g) A (WM a g) cX9_manyCross 4 RX9 3 88) (hr : Rti p l e R s m args below meth c Q D A (WM a g) cX9_manyCross (em z.1, Int32.ofInt z.2)) : ∀ (fu : Nat) (S : SZ) (v1 : Int) (v2 : Int), f_X9_manyCross_p4 fu S v1 v2 = some z → Go p l e R s m args below meth c Q D A (WM a g) 4 (em S) 4 [(0, .ref (a 0)), (1, .int (Int32.ofInt v1)), (2, .int (Int32.ofInt v2))] [] := by
  obtain ⟨⟨hx, hb, hml, hown, hts⟩, -, -, -, hnf, hno⟩ := id hc
  intro fu
  induction fu with
  | zero =>
    intro S v1 v2 h
    rw [f_X9_manyCross_p4] at h
    cases h
  | succ fu ih =>
    intro S v1 v2 h H locs ls hP hS hl
    rw [f_X9_manyCross_p4] at h
    refine lv_iload_n hx hb dX9_manyCross_4 rfl (lv_at hl 2 rfl) ?_
    refine lv_aload_n hx hb dX9_manyCross_5 rfl (lv_at hl 0 rfl) ?_
    refine gzWM_HiddenEdgesModel_edges hc hP q_539 dX9_manyCross_6 ?_
    obtain ⟨h1, h⟩ := chk_at h
    obtain ⟨h2, h⟩ := chk_at h
    refine z_icmp_ge (tgt := 48) hx hb h1 h2 dX9_manyCross_9 (by decide) (fun hq => ?_) (fun hq => ?_)
    · replace h := if_yes hq h
      refine lv_iload_n hx hb dX9_manyCross_48 rfl (lv_at hl 1 rfl) ?_
      obtain rfl := Option.some.inj h
      exact hr _ _ _ _ dX9_manyCross_49 hP hS
    · replace h := if_no hq h
      refine lv_iconst (v := Int32.ofInt (0 : Int)) hx hb dX9_manyCross_12 (by decide) ?_
      refine lv_istore_n (lv' := [(3, .int (Int32.ofInt (0 : Int))), (0, .ref (a 0)), (1, .int (Int32.ofInt v1)), (2, .int (Int32.ofInt v2))]) hx hb dX9_manyCross_13 rfl hl (by decide) rfl (fun ls hl => ?_)
      exact t_X9_manyCross_p14 hc hr ih FU S v1 v2 (0 : Int) h H locs ls hP hS (lv_sub hl [1, 2, 3, 0] rfl)
set_option maxHeartbeats 4000000 in
set_option maxRecDepth 100000 in
theorem t_X9_manyCross {z : SZ × Int} (hc : Cx p R s m args c D (tysWM g) A (WM a g) cX9_manyCross 4 RX9 3 88) (hr : Rti p l e R s m args below meth c Q D A (WM a g) cX9_manyCross (em z.1, Int32.ofInt z.2)) : ∀ (S : SZ), f_X9_manyCross S = some z → Go p l e R s m args below meth c Q D A (WM a g) 4 (em S) 0 [(0, .ref (a 0))] [] := by
  obtain ⟨⟨hx, hb, hml, hown, hts⟩, -, -, -, hnf, hno⟩ := id hc
  intro S h H locs ls hP hS hl
  rw [f_X9_manyCross] at h
  replace hl : lv_has ls 4 [(0, .ref (a 0))] := hl
  refine lv_iconst (v := Int32.ofInt (0 : Int)) hx hb dX9_manyCross_0 (by decide) ?_
  refine lv_istore_n (lv' := [(1, .int (Int32.ofInt (0 : Int))), (0, .ref (a 0))]) hx hb dX9_manyCross_1 rfl hl (by decide) rfl (fun ls hl => ?_)
  refine lv_iconst (v := Int32.ofInt (0 : Int)) hx hb dX9_manyCross_2 (by decide) ?_
  refine lv_istore_n (lv' := [(2, .int (Int32.ofInt (0 : Int))), (1, .int (Int32.ofInt (0 : Int))), (0, .ref (a 0))]) hx hb dX9_manyCross_3 rfl hl (by decide) rfl (fun ls hl => ?_)
  exact t_X9_manyCross_p4 hc hr FU S (0 : Int) (0 : Int) h H locs ls hP hS (lv_sub hl [2, 1, 0] rfl)
abbrev rm_X9_manyCross : Room := { frames := 3, cells := 0, slots := 0, locals := 88 }
theorem c_X9_manyCross {l : Launch} {D : va_G} {a : Nat → Nat} {g : Nat → ClassId} {S : SZ} {Z1 : SZ} {r1 : Int} (h : f_X9_manyCross S = some (Z1, r1)) : MetI l D (tysWM g) (WM a g) E0 yX9_manyCross cX9_manyCross 4 (some .int) rm_X9_manyCross [.ref (a 0)] (em S) (em Z1, Int32.ofInt r1) := mk_i (WM_same a g) (by decide) (em Z1, Int32.ofInt r1) (Nat.le_of_ble_eq_true rfl) (fun p e s m args below meth c A Q hc hE hr => t_X9_manyCross (z := (Z1, r1)) hc hr S h)
theorem k_X9_manyCross : CalV RX9 yX9_manyCross cX9_manyCross 4 (some .int) rm_X9_manyCross 0 := ⟨q_851, q_852, q_5, q_853, by decide +kernel, rfl, rfl⟩
set_option maxHeartbeats 4000000 in
set_option maxRecDepth 100000 in
theorem t_X9_greatest_p14 {z : SZ × Int} (hc : Cx p R s m args c D (tysWM g) A (WM a g) cX9_greatest 4 RX9 1 21) (hr : Rti p l e R s m args below meth c Q D A (WM a g) cX9_greatest (em z.1, Int32.ofInt z.2)) {k4 : SZ → Int → Int → Option (SZ × Int)} (K4 : ∀ (S : SZ) (v1 : Int) (v2 : Int), k4 S v1 v2 = some z → Go p l e R s m args below meth c Q D A (WM a g) 4 (em S) 4 [(0, .ref (a 0)), (1, .int (Int32.ofInt v1)), (2, .int (Int32.ofInt v2))] []) : ∀ (fu : Nat) (S : SZ) (v1 : Int) (v2 : Int) (v3 : Int), f_X9_greatest_p14 k4 fu S v1 v2 v3 = some z → Go p l e R s m args below meth c Q D A (WM a g) 4 (em S) 14 [(0, .ref (a 0)), (1, .int (Int32.ofInt v1)), (2, .int (Int32.ofInt v2)), (3, .int (Int32.ofInt v3))] [] := by
  obtain ⟨⟨hx, hb, hml, hown, hts⟩, -, -, -, hnf, hno⟩ := id hc
  intro fu
  induction fu with
  | zero =>
    intro S v1 v2 v3 h
    rw [f_X9_greatest_p14] at h
    cases h
  | succ fu ih =>
    intro S v1 v2 v3 h H locs ls hP hS hl
    rw [f_X9_greatest_p14] at h
    refine lv_iload_n hx hb dX9_greatest_14 rfl (lv_at hl 3 rfl) ?_
    refine lv_aload_n hx hb dX9_greatest_15 rfl (lv_at hl 0 rfl) ?_
    refine lv_iload_n hx hb dX9_greatest_16 rfl (lv_at hl 2 rfl) ?_
    obtain ⟨S1, x3, hk2, h⟩ := ob2_at h
    refine cl_Vi (As := [.int (Int32.ofInt v2)]) (rest := [.int (Int32.ofInt v3)]) hc k_X9_piecesOf q_600 (c_X9_piecesOf hk2) hP hS (WM_0 a g (em S)) rfl rfl rfl hl (Nat.le_of_ble_eq_true rfl) dX9_greatest_17 (Nat.le_of_ble_eq_true rfl) (Nat.le_of_ble_eq_true rfl) rfl (fun H locs hP hS => ?_)
    obtain ⟨h4, h⟩ := chk_at h
    obtain ⟨h5, h⟩ := chk_at h
    refine z_icmp_ge (tgt := 60) hx hb h4 h5 dX9_greatest_20 (by decide) (fun hq => ?_) (fun hq => ?_)
    · replace h := if_yes hq h
      obtain ⟨x6, ex6⟩ : ∃ y : Int, y = v2 + (1 : Int) := ⟨_, rfl⟩
      replace h := olet_at ex6 h
      refine lv_iinc (v := Int32.ofInt x6) (lv' := [(2, .int (Int32.ofInt x6)), (0, .ref (a 0)), (1, .int (Int32.ofInt v1)), (3, .int (Int32.ofInt v3))]) hx hb dX9_greatest_60 hl (k := 2) rfl (by rw [ex6, Int32.ofInt_add]) (by decide) rfl (fun ls hl => ?_)
      refine lv_goto (tgt := 4) hx hb dX9_greatest_63 (by decide) ?_
      exact K4 S1 v1 x6 h H locs ls hP hS (lv_sub hl [1, 2, 0] rfl)
    · replace h := if_no hq h
      refine lv_aload_n hx hb dX9_greatest_23 rfl (lv_at hl 0 rfl) ?_
      refine gfWM_HiddenEdgesModel_quantity hc hP q_115 dX9_greatest_24 ?_
      refine lv_bipush (v := Int32.ofInt (50 : Int)) hx hb dX9_greatest_27 (by decide) ?_
      refine lv_iload_n hx hb dX9_greatest_29 rfl (lv_at hl 2 rfl) ?_
      refine z_imul hx hb dX9_greatest_30 ?_
      refine lv_iload_n hx hb dX9_greatest_31 rfl (lv_at hl 3 rfl) ?_
      refine z_iadd hx hb dX9_greatest_32 ?_
      obtain ⟨h7, h⟩ := chk_at h
      refine azWM_HiddenEdgesModel_quantity hc hP h7 dX9_greatest_33 ?_
      refine lv_iload_n hx hb dX9_greatest_34 rfl (lv_at hl 1 rfl) ?_
      obtain ⟨h8, h⟩ := chk_at h
      obtain ⟨h9, h⟩ := chk_at h
      refine z_icmp_le (tgt := 52) hx hb h8 h9 dX9_greatest_35 (by decide) (fun hq => ?_) (fun hq => ?_)
      · replace h := if_yes hq h
        refine lv_iload_n hx hb dX9_greatest_52 rfl (lv_at hl 1 rfl) ?_
        refine lv_istore_n (lv' := [(1, .int (Int32.ofInt v1)), (0, .ref (a 0)), (2, .int (Int32.ofInt v2)), (3, .int (Int32.ofInt v3))]) hx hb dX9_greatest_53 rfl hl (by decide) rfl (fun ls hl => ?_)
        obtain ⟨x10, ex10⟩ : ∃ y : Int, y = v3 + (1 : Int) := ⟨_, rfl⟩
        replace h := olet_at ex10 h
        refine lv_iinc (v := Int32.ofInt x10) (lv' := [(3, .int (Int32.ofInt x10)), (1, .int (Int32.ofInt v1)), (0, .ref (a 0)), (2, .int (Int32.ofInt v2))]) hx hb dX9_greatest_54 hl (k := 3) rfl (by rw [ex10, Int32.ofInt_add]) (by decide) rfl (fun ls hl => ?_)
        refine lv_goto (tgt := 14) hx hb dX9_greatest_57 (by decide) ?_
        exact ih S1 v1 v2 x10 h H locs ls hP hS (lv_sub hl [2, 1, 3, 0] rfl)
      · replace h := if_no hq h
        refine lv_aload_n hx hb dX9_greatest_38 rfl (lv_at hl 0 rfl) ?_
        refine gfWM_HiddenEdgesModel_quantity hc hP q_115 dX9_greatest_39 ?_
        refine lv_bipush (v := Int32.ofInt (50 : Int)) hx hb dX9_greatest_42 (by decide) ?_
        refine lv_iload_n hx hb dX9_greatest_44 rfl (lv_at hl 2 rfl) ?_
        refine z_imul hx hb dX9_greatest_45 ?_
        refine lv_iload_n hx hb dX9_greatest_46 rfl (lv_at hl 3 rfl) ?_
        refine z_iadd hx hb dX9_greatest_47 ?_
        refine azWM_HiddenEdgesModel_quantity hc hP h7 dX9_greatest_48 ?_
        refine lv_goto (tgt := 53) hx hb dX9_greatest_49 (by decide) ?_
        refine z_topi (fun x11 ex11 => ?_)
        replace h := olet_at ex11 h
        refine lv_istore_n (lv' := [(1, .int (Int32.ofInt x11)), (0, .ref (a 0)), (2, .int (Int32.ofInt v2)), (3, .int (Int32.ofInt v3))]) hx hb dX9_greatest_53 rfl hl (by decide) rfl (fun ls hl => ?_)
        obtain ⟨x12, ex12⟩ : ∃ y : Int, y = v3 + (1 : Int) := ⟨_, rfl⟩
        replace h := olet_at ex12 h
        refine lv_iinc (v := Int32.ofInt x12) (lv' := [(3, .int (Int32.ofInt x12)), (1, .int (Int32.ofInt x11)), (0, .ref (a 0)), (2, .int (Int32.ofInt v2))]) hx hb dX9_greatest_54 hl (k := 3) rfl (by rw [ex12, Int32.ofInt_add]) (by decide) rfl (fun ls hl => ?_)
        refine lv_goto (tgt := 14) hx hb dX9_greatest_57 (by decide) ?_
        exact ih S1 x11 v2 x12 h H locs ls hP hS (lv_sub hl [2, 1, 3, 0] rfl)
set_option maxHeartbeats 4000000 in
set_option maxRecDepth 100000 in
theorem t_X9_greatest_p4 {z : SZ × Int} (hc : Cx p R s m args c D (tysWM g) A (WM a g) cX9_greatest 4 RX9 1 21) (hr : Rti p l e R s m args below meth c Q D A (WM a g) cX9_greatest (em z.1, Int32.ofInt z.2)) : ∀ (fu : Nat) (S : SZ) (v1 : Int) (v2 : Int), f_X9_greatest_p4 fu S v1 v2 = some z → Go p l e R s m args below meth c Q D A (WM a g) 4 (em S) 4 [(0, .ref (a 0)), (1, .int (Int32.ofInt v1)), (2, .int (Int32.ofInt v2))] [] := by
  obtain ⟨⟨hx, hb, hml, hown, hts⟩, -, -, -, hnf, hno⟩ := id hc
  intro fu
  induction fu with
  | zero =>
    intro S v1 v2 h
    rw [f_X9_greatest_p4] at h
    cases h
  | succ fu ih =>
    intro S v1 v2 h H locs ls hP hS hl
    rw [f_X9_greatest_p4] at h
    refine lv_iload_n hx hb dX9_greatest_4 rfl (lv_at hl 2 rfl) ?_
    refine lv_aload_n hx hb dX9_greatest_5 rfl (lv_at hl 0 rfl) ?_
    refine gzWM_HiddenEdgesModel_edges hc hP q_539 dX9_greatest_6 ?_
    obtain ⟨h1, h⟩ := chk_at h
    obtain ⟨h2, h⟩ := chk_at h
    refine z_icmp_ge (tgt := 66) hx hb h1 h2 dX9_greatest_9 (by decide) (fun hq => ?_) (fun hq => ?_)
    · replace h := if_yes hq h
      refine lv_iload_n hx hb dX9_greatest_66 rfl (lv_at hl 1 rfl) ?_
      obtain rfl := Option.some.inj h
      exact hr _ _ _ _ dX9_greatest_67 hP hS
    · replace h := if_no hq h
      refine lv_iconst (v := Int32.ofInt (0 : Int)) hx hb dX9_greatest_12 (by decide) ?_
      refine lv_istore_n (lv' := [(3, .int (Int32.ofInt (0 : Int))), (0, .ref (a 0)), (1, .int (Int32.ofInt v1)), (2, .int (Int32.ofInt v2))]) hx hb dX9_greatest_13 rfl hl (by decide) rfl (fun ls hl => ?_)
      exact t_X9_greatest_p14 hc hr ih FU S v1 v2 (0 : Int) h H locs ls hP hS (lv_sub hl [1, 2, 3, 0] rfl)
set_option maxHeartbeats 4000000 in
set_option maxRecDepth 100000 in
theorem t_X9_greatest {z : SZ × Int} (hc : Cx p R s m args c D (tysWM g) A (WM a g) cX9_greatest 4 RX9 1 21) (hr : Rti p l e R s m args below meth c Q D A (WM a g) cX9_greatest (em z.1, Int32.ofInt z.2)) : ∀ (S : SZ), f_X9_greatest S = some z → Go p l e R s m args below meth c Q D A (WM a g) 4 (em S) 0 [(0, .ref (a 0))] [] := by
  obtain ⟨⟨hx, hb, hml, hown, hts⟩, -, -, -, hnf, hno⟩ := id hc
  intro S h H locs ls hP hS hl
  rw [f_X9_greatest] at h
  replace hl : lv_has ls 4 [(0, .ref (a 0))] := hl
  refine lv_iconst (v := Int32.ofInt (0 : Int)) hx hb dX9_greatest_0 (by decide) ?_
  refine lv_istore_n (lv' := [(1, .int (Int32.ofInt (0 : Int))), (0, .ref (a 0))]) hx hb dX9_greatest_1 rfl hl (by decide) rfl (fun ls hl => ?_)
  refine lv_iconst (v := Int32.ofInt (0 : Int)) hx hb dX9_greatest_2 (by decide) ?_
  refine lv_istore_n (lv' := [(2, .int (Int32.ofInt (0 : Int))), (1, .int (Int32.ofInt (0 : Int))), (0, .ref (a 0))]) hx hb dX9_greatest_3 rfl hl (by decide) rfl (fun ls hl => ?_)
  exact t_X9_greatest_p4 hc hr FU S (0 : Int) (0 : Int) h H locs ls hP hS (lv_sub hl [2, 1, 0] rfl)
abbrev rm_X9_greatest : Room := { frames := 1, cells := 0, slots := 0, locals := 21 }
theorem c_X9_greatest {l : Launch} {D : va_G} {a : Nat → Nat} {g : Nat → ClassId} {S : SZ} {Z1 : SZ} {r1 : Int} (h : f_X9_greatest S = some (Z1, r1)) : MetI l D (tysWM g) (WM a g) E0 yX9_greatest cX9_greatest 4 (some .int) rm_X9_greatest [.ref (a 0)] (em S) (em Z1, Int32.ofInt r1) := mk_i (WM_same a g) (by decide) (em Z1, Int32.ofInt r1) (Nat.le_of_ble_eq_true rfl) (fun p e s m args below meth c A Q hc hE hr => t_X9_greatest (z := (Z1, r1)) hc hr S h)
theorem k_X9_greatest : CalV RX9 yX9_greatest cX9_greatest 4 (some .int) rm_X9_greatest 0 := ⟨q_855, q_856, q_5, q_857, by decide +kernel, rfl, rfl⟩
set_option maxHeartbeats 4000000 in
set_option maxRecDepth 100000 in
theorem t_X9_many {z : SZ × Int} (hc : Cx p R s m args c D (tysWM g) A (WM a g) cX9_many 2 RX9 8 206) (hr : Rti p l e R s m args below meth c Q D A (WM a g) cX9_many (em z.1, Int32.ofInt z.2)) : ∀ (S : SZ) (v1 : Int), f_X9_many S v1 = some z → Go p l e R s m args below meth c Q D A (WM a g) 2 (em S) 0 [(0, .ref (a 0)), (1, .int (Int32.ofInt v1))] [] := by
  obtain ⟨⟨hx, hb, hml, hown, hts⟩, -, -, -, hnf, hno⟩ := id hc
  intro S v1 h H locs ls hP hS hl
  rw [f_X9_many] at h
  replace hl : lv_has ls 2 [(0, .ref (a 0)), (1, .int (Int32.ofInt v1))] := hl
  refine lv_aload_n hx hb dX9_many_0 rfl (lv_at hl 0 rfl) ?_
  obtain ⟨S1, hk2, h⟩ := ob1_at h
  refine cl_Vv (As := []) (rest := []) hc k_X9_findAll q_540 (c_X9_findAll hk2) hP hS (WM_0 a g (em S)) rfl rfl rfl hl (Nat.le_of_ble_eq_true rfl) dX9_many_1 (Nat.le_of_ble_eq_true rfl) (Nat.le_of_ble_eq_true rfl) rfl (fun H locs hP hS => ?_)
  refine lv_iload_n hx hb dX9_many_4 rfl (lv_at hl 1 rfl) ?_
  obtain ⟨h3, h⟩ := chk_at h
  by_cases hsw : v1 < 0 ∨ 11 < v1
  · replace h := if_yes hsw h
    refine lv_tableOut (tgt := 114) hx hb dX9_many_5 (by rw [o32 h3]; exact hsw) (by decide) ?_
    refine lv_bipush (v := Int32.ofInt (-2 : Int)) hx hb dX9_many_114 (by decide) ?_
    obtain rfl := Option.some.inj h
    exact hr _ _ _ _ dX9_many_116 hP hS
  replace h := if_no hsw h
  by_cases hs0 : v1 = 0
  · replace h := if_yes hs0 h
    refine lv_tableIn (off := 63) (tgt := 68) hx hb dX9_many_5 (by rw [o32 h3]; exact fun h9 => hsw (Or.inl h9)) (by rw [o32 h3]; exact fun h9 => hsw (Or.inr h9)) (by rw [o32 h3, hs0]; rfl) (by decide) ?_
    refine lv_aload_n hx hb dX9_many_68 rfl (lv_at hl 0 rfl) ?_
    refine gzWM_HiddenEdgesModel_points hc hP q_154 dX9_many_69 ?_
    obtain rfl := Option.some.inj h
    exact hr _ _ _ _ dX9_many_72 hP hS
  replace h := if_no hs0 h
  by_cases hs1 : v1 = 1
  · replace h := if_yes hs1 h
    refine lv_tableIn (off := 68) (tgt := 73) hx hb dX9_many_5 (by rw [o32 h3]; exact fun h9 => hsw (Or.inl h9)) (by rw [o32 h3]; exact fun h9 => hsw (Or.inr h9)) (by rw [o32 h3, hs1]; rfl) (by decide) ?_
    refine lv_aload_n hx hb dX9_many_73 rfl (lv_at hl 0 rfl) ?_
    refine gzWM_HiddenEdgesModel_faces hc hP q_207 dX9_many_74 ?_
    obtain rfl := Option.some.inj h
    exact hr _ _ _ _ dX9_many_77 hP hS
  replace h := if_no hs1 h
  by_cases hs2 : v1 = 2
  · replace h := if_yes hs2 h
    refine lv_tableIn (off := 73) (tgt := 78) hx hb dX9_many_5 (by rw [o32 h3]; exact fun h9 => hsw (Or.inl h9)) (by rw [o32 h3]; exact fun h9 => hsw (Or.inr h9)) (by rw [o32 h3, hs2]; rfl) (by decide) ?_
    refine lv_aload_n hx hb dX9_many_78 rfl (lv_at hl 0 rfl) ?_
    refine gzWM_HiddenEdgesModel_wires hc hP q_246 dX9_many_79 ?_
    obtain rfl := Option.some.inj h
    exact hr _ _ _ _ dX9_many_82 hP hS
  replace h := if_no hs2 h
  by_cases hs3 : v1 = 3
  · replace h := if_yes hs3 h
    refine lv_tableIn (off := 78) (tgt := 83) hx hb dX9_many_5 (by rw [o32 h3]; exact fun h9 => hsw (Or.inl h9)) (by rw [o32 h3]; exact fun h9 => hsw (Or.inr h9)) (by rw [o32 h3, hs3]; rfl) (by decide) ?_
    refine lv_aload_n hx hb dX9_many_83 rfl (lv_at hl 0 rfl) ?_
    refine gzWM_HiddenEdgesModel_edges hc hP q_539 dX9_many_84 ?_
    obtain rfl := Option.some.inj h
    exact hr _ _ _ _ dX9_many_87 hP hS
  replace h := if_no hs3 h
  by_cases hs4 : v1 = 4
  · replace h := if_yes hs4 h
    refine lv_tableIn (off := 83) (tgt := 88) hx hb dX9_many_5 (by rw [o32 h3]; exact fun h9 => hsw (Or.inl h9)) (by rw [o32 h3]; exact fun h9 => hsw (Or.inr h9)) (by rw [o32 h3, hs4]; rfl) (by decide) ?_
    refine lv_aload_n hx hb dX9_many_88 rfl (lv_at hl 0 rfl) ?_
    refine lv_iload_n hx hb dX9_many_89 rfl (lv_at hl 1 rfl) ?_
    obtain ⟨S4, x6, hk5, h⟩ := ob2_at h
    refine cl_Vi (As := [.int (Int32.ofInt v1)]) (rest := []) hc k_X9_manyEdges q_842 (c_X9_manyEdges hk5) hP hS (WM_0 a g (em S1)) rfl rfl rfl hl (Nat.le_of_ble_eq_true rfl) dX9_many_90 (Nat.le_of_ble_eq_true rfl) (Nat.le_of_ble_eq_true rfl) rfl (fun H locs hP hS => ?_)
    obtain rfl := Option.some.inj h
    exact hr _ _ _ _ dX9_many_93 hP hS
  replace h := if_no hs4 h
  by_cases hs5 : v1 = 5
  · replace h := if_yes hs5 h
    refine lv_tableIn (off := 83) (tgt := 88) hx hb dX9_many_5 (by rw [o32 h3]; exact fun h9 => hsw (Or.inl h9)) (by rw [o32 h3]; exact fun h9 => hsw (Or.inr h9)) (by rw [o32 h3, hs5]; rfl) (by decide) ?_
    refine lv_aload_n hx hb dX9_many_88 rfl (lv_at hl 0 rfl) ?_
    refine lv_iload_n hx hb dX9_many_89 rfl (lv_at hl 1 rfl) ?_
    obtain ⟨S7, x9, hk8, h⟩ := ob2_at h
    refine cl_Vi (As := [.int (Int32.ofInt v1)]) (rest := []) hc k_X9_manyEdges q_842 (c_X9_manyEdges hk8) hP hS (WM_0 a g (em S1)) rfl rfl rfl hl (Nat.le_of_ble_eq_true rfl) dX9_many_90 (Nat.le_of_ble_eq_true rfl) (Nat.le_of_ble_eq_true rfl) rfl (fun H locs hP hS => ?_)
    obtain rfl := Option.some.inj h
    exact hr _ _ _ _ dX9_many_93 hP hS
  replace h := if_no hs5 h
  by_cases hs6 : v1 = 6
  · replace h := if_yes hs6 h
    refine lv_tableIn (off := 83) (tgt := 88) hx hb dX9_many_5 (by rw [o32 h3]; exact fun h9 => hsw (Or.inl h9)) (by rw [o32 h3]; exact fun h9 => hsw (Or.inr h9)) (by rw [o32 h3, hs6]; rfl) (by decide) ?_
    refine lv_aload_n hx hb dX9_many_88 rfl (lv_at hl 0 rfl) ?_
    refine lv_iload_n hx hb dX9_many_89 rfl (lv_at hl 1 rfl) ?_
    obtain ⟨S10, x12, hk11, h⟩ := ob2_at h
    refine cl_Vi (As := [.int (Int32.ofInt v1)]) (rest := []) hc k_X9_manyEdges q_842 (c_X9_manyEdges hk11) hP hS (WM_0 a g (em S1)) rfl rfl rfl hl (Nat.le_of_ble_eq_true rfl) dX9_many_90 (Nat.le_of_ble_eq_true rfl) (Nat.le_of_ble_eq_true rfl) rfl (fun H locs hP hS => ?_)
    obtain rfl := Option.some.inj h
    exact hr _ _ _ _ dX9_many_93 hP hS
  replace h := if_no hs6 h
  by_cases hs7 : v1 = 7
  · replace h := if_yes hs7 h
    refine lv_tableIn (off := 83) (tgt := 88) hx hb dX9_many_5 (by rw [o32 h3]; exact fun h9 => hsw (Or.inl h9)) (by rw [o32 h3]; exact fun h9 => hsw (Or.inr h9)) (by rw [o32 h3, hs7]; rfl) (by decide) ?_
    refine lv_aload_n hx hb dX9_many_88 rfl (lv_at hl 0 rfl) ?_
    refine lv_iload_n hx hb dX9_many_89 rfl (lv_at hl 1 rfl) ?_
    obtain ⟨S13, x15, hk14, h⟩ := ob2_at h
    refine cl_Vi (As := [.int (Int32.ofInt v1)]) (rest := []) hc k_X9_manyEdges q_842 (c_X9_manyEdges hk14) hP hS (WM_0 a g (em S1)) rfl rfl rfl hl (Nat.le_of_ble_eq_true rfl) dX9_many_90 (Nat.le_of_ble_eq_true rfl) (Nat.le_of_ble_eq_true rfl) rfl (fun H locs hP hS => ?_)
    obtain rfl := Option.some.inj h
    exact hr _ _ _ _ dX9_many_93 hP hS
  replace h := if_no hs7 h
  by_cases hs8 : v1 = 8
  · replace h := if_yes hs8 h
    refine lv_tableIn (off := 89) (tgt := 94) hx hb dX9_many_5 (by rw [o32 h3]; exact fun h9 => hsw (Or.inl h9)) (by rw [o32 h3]; exact fun h9 => hsw (Or.inr h9)) (by rw [o32 h3, hs8]; rfl) (by decide) ?_
    refine lv_aload_n hx hb dX9_many_94 rfl (lv_at hl 0 rfl) ?_
    refine gzWM_HiddenEdgesModel_strokes hc hP q_598 dX9_many_95 ?_
    obtain rfl := Option.some.inj h
    exact hr _ _ _ _ dX9_many_98 hP hS
  replace h := if_no hs8 h
  by_cases hs9 : v1 = 9
  · replace h := if_yes hs9 h
    refine lv_tableIn (off := 94) (tgt := 99) hx hb dX9_many_5 (by rw [o32 h3]; exact fun h9 => hsw (Or.inl h9)) (by rw [o32 h3]; exact fun h9 => hsw (Or.inr h9)) (by rw [o32 h3, hs9]; rfl) (by decide) ?_
    refine lv_aload_n hx hb dX9_many_99 rfl (lv_at hl 0 rfl) ?_
    obtain ⟨S16, x18, hk17, h⟩ := ob2_at h
    refine cl_Vi (As := []) (rest := []) hc k_X9_manyLook q_846 (c_X9_manyLook hk17) hP hS (WM_0 a g (em S1)) rfl rfl rfl hl (Nat.le_of_ble_eq_true rfl) dX9_many_100 (Nat.le_of_ble_eq_true rfl) (Nat.le_of_ble_eq_true rfl) rfl (fun H locs hP hS => ?_)
    obtain rfl := Option.some.inj h
    exact hr _ _ _ _ dX9_many_103 hP hS
  replace h := if_no hs9 h
  by_cases hs10 : v1 = 10
  · replace h := if_yes hs10 h
    refine lv_tableIn (off := 99) (tgt := 104) hx hb dX9_many_5 (by rw [o32 h3]; exact fun h9 => hsw (Or.inl h9)) (by rw [o32 h3]; exact fun h9 => hsw (Or.inr h9)) (by rw [o32 h3, hs10]; rfl) (by decide) ?_
    refine lv_aload_n hx hb dX9_many_104 rfl (lv_at hl 0 rfl) ?_
    obtain ⟨S19, x21, hk20, h⟩ := ob2_at h
    refine cl_Vi (As := []) (rest := []) hc k_X9_manyCross q_850 (c_X9_manyCross hk20) hP hS (WM_0 a g (em S1)) rfl rfl rfl hl (Nat.le_of_ble_eq_true rfl) dX9_many_105 (Nat.le_of_ble_eq_true rfl) (Nat.le_of_ble_eq_true rfl) rfl (fun H locs hP hS => ?_)
    obtain rfl := Option.some.inj h
    exact hr _ _ _ _ dX9_many_108 hP hS
  replace h := if_no hs10 h
  by_cases hs11 : v1 = 11
  · replace h := if_yes hs11 h
    refine lv_tableIn (off := 104) (tgt := 109) hx hb dX9_many_5 (by rw [o32 h3]; exact fun h9 => hsw (Or.inl h9)) (by rw [o32 h3]; exact fun h9 => hsw (Or.inr h9)) (by rw [o32 h3, hs11]; rfl) (by decide) ?_
    refine lv_aload_n hx hb dX9_many_109 rfl (lv_at hl 0 rfl) ?_
    obtain ⟨S22, x24, hk23, h⟩ := ob2_at h
    refine cl_Vi (As := []) (rest := []) hc k_X9_greatest q_854 (c_X9_greatest hk23) hP hS (WM_0 a g (em S1)) rfl rfl rfl hl (Nat.le_of_ble_eq_true rfl) dX9_many_110 (Nat.le_of_ble_eq_true rfl) (Nat.le_of_ble_eq_true rfl) rfl (fun H locs hP hS => ?_)
    obtain rfl := Option.some.inj h
    exact hr _ _ _ _ dX9_many_113 hP hS
  replace h := if_no hs11 h
  cases h
abbrev rm_X9_many : Room := { frames := 8, cells := 0, slots := 0, locals := 206 }
theorem c_X9_many {l : Launch} {D : va_G} {a : Nat → Nat} {g : Nat → ClassId} {S : SZ} {v1 : Int} {Z1 : SZ} {r1 : Int} (h : f_X9_many S v1 = some (Z1, r1)) : MetI l D (tysWM g) (WM a g) E0 yX9_many cX9_many 2 (some .int) rm_X9_many [.ref (a 0), .int (Int32.ofInt v1)] (em S) (em Z1, Int32.ofInt r1) := mk_i (WM_same a g) (by decide) (em Z1, Int32.ofInt r1) (Nat.le_of_ble_eq_true rfl) (fun p e s m args below meth c A Q hc hE hr => t_X9_many (z := (Z1, r1)) hc hr S v1 h)
theorem k_X9_many : CalV RX9 yX9_many cX9_many 2 (some .int) rm_X9_many 1 := ⟨q_839, q_840, q_5, q_841, by decide +kernel, rfl, rfl⟩
end W
