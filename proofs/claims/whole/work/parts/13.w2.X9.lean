section W
variable {p : Program} {l : Launch} {e : Env} {R : Room} {s : State} {m : MethodId} {args : Array Value} {below : List Frame} {meth : Method} {c : Code} {Q : State → Prop} {D : va_G} {A : Nat → Prop} {a : Nat → Nat} {g : Nat → ClassId}
set_option maxHeartbeats 4000000 in
set_option maxRecDepth 100000 in
theorem t_X9_against_p218 {z : SZ × Int} (hc : Cx p R s m args c D (tysWM g) A (WM a g) cX9_against 8 RX9 3 79) (hr : Rtl p l e R s m args below meth c Q D A (WM a g) cX9_against (em z.1, Int64.ofInt z.2)) : ∀ (S : SZ) (v1 : Int) (v4 : Int), f_X9_against_p218 S v1 v4 = some z → Go p l e R s m args below meth c Q D A (WM a g) 8 (em S) 218 [(0, .ref (a 0)), (1, .int (Int32.ofInt v1)), (4, .long (Int64.ofInt v4))] [] := by
  obtain ⟨⟨hx, hb, hml, hown, hts⟩, -, -, -, hnf, hno⟩ := id hc
  intro S v1 v4 h H locs ls hP hS hl
  rw [f_X9_against_p218] at h
  refine lv_aload_n hx hb dX9_against_218 rfl (lv_at hl 0 rfl) ?_
  refine lv_iload_n hx hb dX9_against_219 rfl (lv_at hl 1 rfl) ?_
  obtain ⟨S1, x3, hk2, h⟩ := ob2_at h
  refine cl_Vl (As := [.int (Int32.ofInt v1)]) (rest := []) hc k_X9_turnOf q_571 (c_X9_turnOf hk2) hP hS (WM_0 a g (em S)) rfl rfl rfl hl (Nat.le_of_ble_eq_true rfl) dX9_against_220 (Nat.le_of_ble_eq_true rfl) (Nat.le_of_ble_eq_true rfl) rfl (fun H locs hP hS => ?_)
  refine lv_lconst (v := Int64.ofInt (0 : Int)) hx hb dX9_against_223 (by decide) ?_
  refine W.lcmp hx hb dX9_against_224 ?_
  obtain ⟨h4, h⟩ := chk_at h
  refine zc_if_ge (tgt := 234) hx hb h4 (by decide) dX9_against_225 (by decide) (fun hq => ?_) (fun hq => ?_)
  · replace h := if_yes hq h
    refine lv_lload hx hb dX9_against_234 (lv_at hl 2 rfl) ?_
    obtain rfl := Option.some.inj h
    exact hr _ _ _ _ dX9_against_236 hP hS
  · replace h := if_no hq h
    refine lv_lload hx hb dX9_against_228 (lv_at hl 2 rfl) ?_
    refine z_lneg hx hb dX9_against_230 ?_
    refine lv_goto (tgt := 236) hx hb dX9_against_231 (by decide) ?_
    obtain rfl := Option.some.inj h
    exact hr _ _ _ _ dX9_against_236 hP hS
set_option maxHeartbeats 4000000 in
set_option maxRecDepth 100000 in
theorem t_X9_against {z : SZ × Int} (hc : Cx p R s m args c D (tysWM g) A (WM a g) cX9_against 8 RX9 3 79) (hr : Rtl p l e R s m args below meth c Q D A (WM a g) cX9_against (em z.1, Int64.ofInt z.2)) : ∀ (S : SZ) (v1 : Int) (v2 : Int) (v3 : Int), f_X9_against S v1 v2 v3 = some z → Go p l e R s m args below meth c Q D A (WM a g) 8 (em S) 0 [(0, .ref (a 0)), (1, .int (Int32.ofInt v1)), (2, .int (Int32.ofInt v2)), (3, .int (Int32.ofInt v3))] [] := by
  obtain ⟨⟨hx, hb, hml, hown, hts⟩, -, -, -, hnf, hno⟩ := id hc
  intro S v1 v2 v3 h H locs ls hP hS hl
  rw [f_X9_against] at h
  replace hl : lv_has ls 8 [(0, .ref (a 0)), (1, .int (Int32.ofInt v1)), (2, .int (Int32.ofInt v2)), (3, .int (Int32.ofInt v3))] := hl
  refine lv_lconst (v := Int64.ofInt (0 : Int)) hx hb dX9_against_0 (by decide) ?_
  refine lv_lstore (lv' := [(4, .long (Int64.ofInt (0 : Int))), (0, .ref (a 0)), (1, .int (Int32.ofInt v1)), (2, .int (Int32.ofInt v2)), (3, .int (Int32.ofInt v3))]) hx hb dX9_against_1 hl (by decide) rfl (fun ls hl => ?_)
  refine lv_aload_n hx hb dX9_against_3 rfl (lv_at hl 1 rfl) ?_
  refine gfWM_HiddenEdgesModel_cornerOf hc hP q_102 dX9_against_4 ?_
  refine lv_iconst (v := Int32.ofInt (3 : Int)) hx hb dX9_against_7 (by decide) ?_
  refine lv_iload_n hx hb dX9_against_8 rfl (lv_at hl 2 rfl) ?_
  refine z_imul hx hb dX9_against_9 ?_
  refine lv_iload_n hx hb dX9_against_10 rfl (lv_at hl 3 rfl) ?_
  refine lv_iconst (v := Int32.ofInt (3 : Int)) hx hb dX9_against_11 (by decide) ?_
  obtain ⟨h1, h⟩ := chk_at h
  obtain ⟨h2, h⟩ := chk_at h
  refine z_irem hx hb h1 (by decide) h2 dX9_against_12 ?_
  refine z_iadd hx hb dX9_against_13 ?_
  obtain ⟨h3, h⟩ := chk_at h
  refine azWM_HiddenEdgesModel_cornerOf hc hP h3 dX9_against_14 ?_
  refine z_topi (fun x4 ex4 => ?_)
  replace h := olet_at ex4 h
  refine lv_istore (lv' := [(6, .int (Int32.ofInt x4)), (4, .long (Int64.ofInt (0 : Int))), (0, .ref (a 0)), (1, .int (Int32.ofInt v1)), (2, .int (Int32.ofInt v2)), (3, .int (Int32.ofInt v3))]) hx hb dX9_against_15 hl (by decide) rfl (fun ls hl => ?_)
  refine lv_iload_n hx hb dX9_against_17 rfl (lv_at hl 4 rfl) ?_
  refine lv_iconst (v := Int32.ofInt (3 : Int)) hx hb dX9_against_18 (by decide) ?_
  refine z_icmp_ge (tgt := 101) hx hb h1 (by decide) dX9_against_19 (by decide) (fun hq => ?_) (fun hq => ?_)
  · replace h := if_yes hq h
    refine lv_aload_n hx hb dX9_against_101 rfl (lv_at hl 2 rfl) ?_
    refine gfWM_HiddenEdgesModel_cornerOf hc hP q_102 dX9_against_102 ?_
    refine lv_iconst (v := Int32.ofInt (3 : Int)) hx hb dX9_against_105 (by decide) ?_
    refine lv_iload_n hx hb dX9_against_106 rfl (lv_at hl 3 rfl) ?_
    refine z_imul hx hb dX9_against_107 ?_
    refine lv_iconst (v := Int32.ofInt (2 : Int)) hx hb dX9_against_108 (by decide) ?_
    refine z_iadd hx hb dX9_against_109 ?_
    obtain ⟨h5, h⟩ := chk_at h
    refine azWM_HiddenEdgesModel_cornerOf hc hP h5 dX9_against_110 ?_
    refine z_topi (fun x6 ex6 => ?_)
    replace h := olet_at ex6 h
    refine lv_istore (lv' := [(7, .int (Int32.ofInt x6)), (6, .int (Int32.ofInt x4)), (4, .long (Int64.ofInt (0 : Int))), (0, .ref (a 0)), (1, .int (Int32.ofInt v1)), (2, .int (Int32.ofInt v2)), (3, .int (Int32.ofInt v3))]) hx hb dX9_against_111 hl (by decide) rfl (fun ls hl => ?_)
    refine lv_aload_n hx hb dX9_against_113 rfl (lv_at hl 3 rfl) ?_
    refine lv_iload hx hb dX9_against_114 (lv_at hl 1 rfl) ?_
    refine lv_aload_n hx hb dX9_against_116 rfl (lv_at hl 3 rfl) ?_
    refine gfWM_HiddenEdgesModel_cornerOf hc hP q_102 dX9_against_117 ?_
    refine lv_iconst (v := Int32.ofInt (3 : Int)) hx hb dX9_against_120 (by decide) ?_
    refine lv_iload_n hx hb dX9_against_121 rfl (lv_at hl 4 rfl) ?_
    refine z_imul hx hb dX9_against_122 ?_
    refine lv_iconst (v := Int32.ofInt (1 : Int)) hx hb dX9_against_123 (by decide) ?_
    refine z_iadd hx hb dX9_against_124 ?_
    obtain ⟨h7, h⟩ := chk_at h
    refine azWM_HiddenEdgesModel_cornerOf hc hP h7 dX9_against_125 ?_
    refine lv_aload_n hx hb dX9_against_126 rfl (lv_at hl 3 rfl) ?_
    refine gfWM_HiddenEdgesModel_xOf hc hP q_99 dX9_against_127 ?_
    refine lv_iload hx hb dX9_against_130 (lv_at hl 0 rfl) ?_
    obtain ⟨h8, h⟩ := chk_at h
    refine azWM_HiddenEdgesModel_xOf hc hP h8 dX9_against_132 ?_
    refine lv_aload_n hx hb dX9_against_133 rfl (lv_at hl 3 rfl) ?_
    refine gfWM_HiddenEdgesModel_xOf hc hP q_99 dX9_against_134 ?_
    refine lv_iload hx hb dX9_against_137 (lv_at hl 1 rfl) ?_
    obtain ⟨h9, h⟩ := chk_at h
    refine azWM_HiddenEdgesModel_xOf hc hP h9 dX9_against_139 ?_
    refine z_isub hx hb dX9_against_140 ?_
    refine lv_aload_n hx hb dX9_against_141 rfl (lv_at hl 3 rfl) ?_
    refine gfWM_HiddenEdgesModel_yOf hc hP q_100 dX9_against_142 ?_
    refine lv_iload hx hb dX9_against_145 (lv_at hl 0 rfl) ?_
    refine azWM_HiddenEdgesModel_yOf hc hP h8 dX9_against_147 ?_
    refine lv_aload_n hx hb dX9_against_148 rfl (lv_at hl 3 rfl) ?_
    refine gfWM_HiddenEdgesModel_yOf hc hP q_100 dX9_against_149 ?_
    refine lv_iload hx hb dX9_against_152 (lv_at hl 1 rfl) ?_
    refine azWM_HiddenEdgesModel_yOf hc hP h9 dX9_against_154 ?_
    refine z_isub hx hb dX9_against_155 ?_
    refine lv_aload_n hx hb dX9_against_156 rfl (lv_at hl 3 rfl) ?_
    refine gfWM_HiddenEdgesModel_zOf hc hP q_101 dX9_against_157 ?_
    refine lv_iload hx hb dX9_against_160 (lv_at hl 0 rfl) ?_
    refine azWM_HiddenEdgesModel_zOf hc hP h8 dX9_against_162 ?_
    refine lv_aload_n hx hb dX9_against_163 rfl (lv_at hl 3 rfl) ?_
    refine gfWM_HiddenEdgesModel_zOf hc hP q_101 dX9_against_164 ?_
    refine lv_iload hx hb dX9_against_167 (lv_at hl 1 rfl) ?_
    refine azWM_HiddenEdgesModel_zOf hc hP h9 dX9_against_169 ?_
    refine z_isub hx hb dX9_against_170 ?_
    refine lv_aload_n hx hb dX9_against_171 rfl (lv_at hl 3 rfl) ?_
    refine gfWM_HiddenEdgesModel_xOf hc hP q_99 dX9_against_172 ?_
    refine lv_iload hx hb dX9_against_175 (lv_at hl 1 rfl) ?_
    refine azWM_HiddenEdgesModel_xOf hc hP h9 dX9_against_177 ?_
    refine lv_aload_n hx hb dX9_against_178 rfl (lv_at hl 3 rfl) ?_
    refine gfWM_HiddenEdgesModel_xOf hc hP q_99 dX9_against_179 ?_
    refine lv_iload_n hx hb dX9_against_182 rfl (lv_at hl 6 rfl) ?_
    obtain ⟨h10, h⟩ := chk_at h
    refine azWM_HiddenEdgesModel_xOf hc hP h10 dX9_against_183 ?_
    refine z_isub hx hb dX9_against_184 ?_
    refine lv_aload_n hx hb dX9_against_185 rfl (lv_at hl 3 rfl) ?_
    refine gfWM_HiddenEdgesModel_yOf hc hP q_100 dX9_against_186 ?_
    refine lv_iload hx hb dX9_against_189 (lv_at hl 1 rfl) ?_
    refine azWM_HiddenEdgesModel_yOf hc hP h9 dX9_against_191 ?_
    refine lv_aload_n hx hb dX9_against_192 rfl (lv_at hl 3 rfl) ?_
    refine gfWM_HiddenEdgesModel_yOf hc hP q_100 dX9_against_193 ?_
    refine lv_iload_n hx hb dX9_against_196 rfl (lv_at hl 6 rfl) ?_
    refine azWM_HiddenEdgesModel_yOf hc hP h10 dX9_against_197 ?_
    refine z_isub hx hb dX9_against_198 ?_
    refine lv_aload_n hx hb dX9_against_199 rfl (lv_at hl 3 rfl) ?_
    refine gfWM_HiddenEdgesModel_zOf hc hP q_101 dX9_against_200 ?_
    refine lv_iload hx hb dX9_against_203 (lv_at hl 1 rfl) ?_
    refine azWM_HiddenEdgesModel_zOf hc hP h9 dX9_against_205 ?_
    refine lv_aload_n hx hb dX9_against_206 rfl (lv_at hl 3 rfl) ?_
    refine gfWM_HiddenEdgesModel_zOf hc hP q_101 dX9_against_207 ?_
    refine lv_iload_n hx hb dX9_against_210 rfl (lv_at hl 6 rfl) ?_
    refine azWM_HiddenEdgesModel_zOf hc hP h10 dX9_against_211 ?_
    refine z_isub hx hb dX9_against_212 ?_
    obtain ⟨S11, x13, hk12, h⟩ := ob2_at h
    refine cl_Vl (As := [.int (Int32.ofInt x4), .int (Int32.ofInt (za S 3 ((((3 : Int) * v1) + (1 : Int))).toNat)), .int (Int32.ofInt ((za S 0 (x6).toNat) - (za S 0 (x4).toNat))), .int (Int32.ofInt ((za S 1 (x6).toNat) - (za S 1 (x4).toNat))), .int (Int32.ofInt ((za S 2 (x6).toNat) - (za S 2 (x4).toNat))), .int (Int32.ofInt ((za S 0 (x4).toNat) - (za S 0 (v3).toNat))), .int (Int32.ofInt ((za S 1 (x4).toNat) - (za S 1 (v3).toNat))), .int (Int32.ofInt ((za S 2 (x4).toNat) - (za S 2 (v3).toNat)))]) (rest := []) hc k_X9_volBy q_564 (c_X9_volBy hk12) hP hS (WM_0 a g (em S)) rfl rfl rfl hl (Nat.le_of_ble_eq_true rfl) dX9_against_213 (Nat.le_of_ble_eq_true rfl) (Nat.le_of_ble_eq_true rfl) rfl (fun H locs hP hS => ?_)
    refine lv_lstore (lv' := [(4, .long (Int64.ofInt x13)), (7, .int (Int32.ofInt x6)), (6, .int (Int32.ofInt x4)), (0, .ref (a 0)), (1, .int (Int32.ofInt v1)), (2, .int (Int32.ofInt v2)), (3, .int (Int32.ofInt v3))]) hx hb dX9_against_216 hl (by decide) rfl (fun ls hl => ?_)
    exact t_X9_against_p218 hc hr S11 v1 x13 h H locs ls hP hS (lv_sub hl [3, 4, 0] rfl)
  · replace h := if_no hq h
    refine lv_aload_n hx hb dX9_against_22 rfl (lv_at hl 2 rfl) ?_
    refine lv_iload hx hb dX9_against_23 (lv_at hl 0 rfl) ?_
    refine lv_aload_n hx hb dX9_against_25 rfl (lv_at hl 2 rfl) ?_
    refine gfWM_HiddenEdgesModel_cornerOf hc hP q_102 dX9_against_26 ?_
    refine lv_iconst (v := Int32.ofInt (3 : Int)) hx hb dX9_against_29 (by decide) ?_
    refine lv_iload_n hx hb dX9_against_30 rfl (lv_at hl 3 rfl) ?_
    refine z_imul hx hb dX9_against_31 ?_
    refine lv_iload_n hx hb dX9_against_32 rfl (lv_at hl 4 rfl) ?_
    refine lv_iconst (v := Int32.ofInt (1 : Int)) hx hb dX9_against_33 (by decide) ?_
    refine z_iadd hx hb dX9_against_34 ?_
    refine lv_iconst (v := Int32.ofInt (3 : Int)) hx hb dX9_against_35 (by decide) ?_
    obtain ⟨h14, h⟩ := chk_at h
    refine z_irem hx hb h14 (by decide) h2 dX9_against_36 ?_
    refine z_iadd hx hb dX9_against_37 ?_
    obtain ⟨h15, h⟩ := chk_at h
    refine azWM_HiddenEdgesModel_cornerOf hc hP h15 dX9_against_38 ?_
    refine lv_aload_n hx hb dX9_against_39 rfl (lv_at hl 2 rfl) ?_
    refine gfWM_HiddenEdgesModel_xOf hc hP q_99 dX9_against_40 ?_
    refine lv_iload_n hx hb dX9_against_43 rfl (lv_at hl 5 rfl) ?_
    obtain ⟨h16, h⟩ := chk_at h
    refine azWM_HiddenEdgesModel_xOf hc hP h16 dX9_against_44 ?_
    refine lv_aload_n hx hb dX9_against_45 rfl (lv_at hl 2 rfl) ?_
    refine gfWM_HiddenEdgesModel_xOf hc hP q_99 dX9_against_46 ?_
    refine lv_iload hx hb dX9_against_49 (lv_at hl 0 rfl) ?_
    obtain ⟨h17, h⟩ := chk_at h
    refine azWM_HiddenEdgesModel_xOf hc hP h17 dX9_against_51 ?_
    refine z_isub hx hb dX9_against_52 ?_
    refine lv_aload_n hx hb dX9_against_53 rfl (lv_at hl 2 rfl) ?_
    refine gfWM_HiddenEdgesModel_yOf hc hP q_100 dX9_against_54 ?_
    refine lv_iload_n hx hb dX9_against_57 rfl (lv_at hl 5 rfl) ?_
    refine azWM_HiddenEdgesModel_yOf hc hP h16 dX9_against_58 ?_
    refine lv_aload_n hx hb dX9_against_59 rfl (lv_at hl 2 rfl) ?_
    refine gfWM_HiddenEdgesModel_yOf hc hP q_100 dX9_against_60 ?_
    refine lv_iload hx hb dX9_against_63 (lv_at hl 0 rfl) ?_
    refine azWM_HiddenEdgesModel_yOf hc hP h17 dX9_against_65 ?_
    refine z_isub hx hb dX9_against_66 ?_
    refine lv_aload_n hx hb dX9_against_67 rfl (lv_at hl 2 rfl) ?_
    refine gfWM_HiddenEdgesModel_zOf hc hP q_101 dX9_against_68 ?_
    refine lv_iload_n hx hb dX9_against_71 rfl (lv_at hl 5 rfl) ?_
    refine azWM_HiddenEdgesModel_zOf hc hP h16 dX9_against_72 ?_
    refine lv_aload_n hx hb dX9_against_73 rfl (lv_at hl 2 rfl) ?_
    refine gfWM_HiddenEdgesModel_zOf hc hP q_101 dX9_against_74 ?_
    refine lv_iload hx hb dX9_against_77 (lv_at hl 0 rfl) ?_
    refine azWM_HiddenEdgesModel_zOf hc hP h17 dX9_against_79 ?_
    refine z_isub hx hb dX9_against_80 ?_
    refine lv_aload_n hx hb dX9_against_81 rfl (lv_at hl 2 rfl) ?_
    refine gzWM_HiddenEdgesModel_dx hc hP q_302 dX9_against_82 ?_
    refine lv_aload_n hx hb dX9_against_85 rfl (lv_at hl 2 rfl) ?_
    refine gzWM_HiddenEdgesModel_dy hc hP q_303 dX9_against_86 ?_
    refine lv_aload_n hx hb dX9_against_89 rfl (lv_at hl 2 rfl) ?_
    refine gzWM_HiddenEdgesModel_dz hc hP q_105 dX9_against_90 ?_
    obtain ⟨S18, x20, hk19, h⟩ := ob2_at h
    refine cl_Vl (As := [.int (Int32.ofInt x4), .int (Int32.ofInt (za S 3 ((((3 : Int) * v1) + (Int.tmod (v2 + (1 : Int)) (3 : Int)))).toNat)), .int (Int32.ofInt ((za S 0 (v3).toNat) - (za S 0 (x4).toNat))), .int (Int32.ofInt ((za S 1 (v3).toNat) - (za S 1 (x4).toNat))), .int (Int32.ofInt ((za S 2 (v3).toNat) - (za S 2 (x4).toNat))), .int (Int32.ofInt (zi S 3)), .int (Int32.ofInt (zi S 4)), .int (Int32.ofInt (zi S 5))]) (rest := []) hc k_X9_volBy q_564 (c_X9_volBy hk19) hP hS (WM_0 a g (em S)) rfl rfl rfl hl (Nat.le_of_ble_eq_true rfl) dX9_against_93 (Nat.le_of_ble_eq_true rfl) (Nat.le_of_ble_eq_true rfl) rfl (fun H locs hP hS => ?_)
    refine lv_lstore (lv' := [(4, .long (Int64.ofInt x20)), (6, .int (Int32.ofInt x4)), (0, .ref (a 0)), (1, .int (Int32.ofInt v1)), (2, .int (Int32.ofInt v2)), (3, .int (Int32.ofInt v3))]) hx hb dX9_against_96 hl (by decide) rfl (fun ls hl => ?_)
    refine lv_goto (tgt := 218) hx hb dX9_against_98 (by decide) ?_
    exact t_X9_against_p218 hc hr S18 v1 x20 h H locs ls hP hS (lv_sub hl [2, 3, 0] rfl)
abbrev rm_X9_against : Room := { frames := 3, cells := 0, slots := 0, locals := 79 }
theorem c_X9_against {l : Launch} {D : va_G} {a : Nat → Nat} {g : Nat → ClassId} {S : SZ} {v1 : Int} {v2 : Int} {v3 : Int} {Z1 : SZ} {r1 : Int} (h : f_X9_against S v1 v2 v3 = some (Z1, r1)) : MetL l D (tysWM g) (WM a g) E0 yX9_against cX9_against 8 (some .long) rm_X9_against [.ref (a 0), .int (Int32.ofInt v1), .int (Int32.ofInt v2), .int (Int32.ofInt v3)] (em S) (em Z1, Int64.ofInt r1) := mk_l (WM_same a g) (by decide) (em Z1, Int64.ofInt r1) (Nat.le_of_ble_eq_true rfl) (fun p e s m args below meth c A Q hc hE hr => t_X9_against (z := (Z1, r1)) hc hr S v1 v2 v3 h)
theorem k_X9_against : CalV RX9 yX9_against cX9_against 8 (some .long) rm_X9_against 3 := ⟨q_587, q_588, q_5, q_589, by decide +kernel, rfl, rfl⟩
set_option maxHeartbeats 4000000 in
set_option maxRecDepth 100000 in
theorem t_X9_findStretch_p129 {z : SZ × Int} (hc : Cx p R s m args c D (tysWM g) A (WM a g) cX9_findStretch 8 RX9 4 106) (hr : Rtz p l e R s m args below meth c Q D A (WM a g) cX9_findStretch (em z.1, Int32.ofInt z.2)) {k34 : SZ → Int → Int → Int → Option (SZ × Int)} (K34 : ∀ (S : SZ) (v1 : Int) (v2 : Int) (v3 : Int), k34 S v1 v2 v3 = some z → Go p l e R s m args below meth c Q D A (WM a g) 8 (em S) 34 [(0, .ref (a 0)), (1, .int (Int32.ofInt v1)), (2, .int (Int32.ofInt v2)), (3, .int (Int32.ofInt v3))] []) : ∀ (S : SZ) (v1 : Int) (v2 : Int) (v3 : Int) (v4 : Int) (v6 : Int), f_X9_findStretch_p129 k34 S v1 v2 v3 v4 v6 = some z → Go p l e R s m args below meth c Q D A (WM a g) 8 (em S) 129 [(0, .ref (a 0)), (1, .int (Int32.ofInt v1)), (2, .int (Int32.ofInt v2)), (3, .int (Int32.ofInt v3)), (4, .long (Int64.ofInt v4)), (6, .long (Int64.ofInt v6))] [] := by
  obtain ⟨⟨hx, hb, hml, hown, hts⟩, -, -, -, hnf, hno⟩ := id hc
  intro S v1 v2 v3 v4 v6 h H locs ls hP hS hl
  rw [f_X9_findStretch_p129] at h
  refine lv_lload hx hb dX9_findStretch_129 (lv_at hl 4 rfl) ?_
  refine lv_lload hx hb dX9_findStretch_131 (lv_at hl 5 rfl) ?_
  refine W.lcmp hx hb dX9_findStretch_133 ?_
  obtain ⟨h1, h⟩ := chk_at h
  obtain ⟨h2, h⟩ := chk_at h
  refine zc_if_le (tgt := 173) hx hb h1 h2 dX9_findStretch_134 (by decide) (fun hq => ?_) (fun hq => ?_)
  · replace h := if_yes hq h
    obtain ⟨x3, ex3⟩ : ∃ y : Int, y = v3 + (1 : Int) := ⟨_, rfl⟩
    replace h := olet_at ex3 h
    refine lv_iinc (v := Int32.ofInt x3) (lv' := [(3, .int (Int32.ofInt x3)), (0, .ref (a 0)), (1, .int (Int32.ofInt v1)), (2, .int (Int32.ofInt v2)), (4, .long (Int64.ofInt v4)), (6, .long (Int64.ofInt v6))]) hx hb dX9_findStretch_173 hl (k := 3) rfl (by rw [ex3, Int32.ofInt_add]) (by decide) rfl (fun ls hl => ?_)
    refine lv_goto (tgt := 34) hx hb dX9_findStretch_176 (by decide) ?_
    exact K34 S v1 v2 x3 h H locs ls hP hS (lv_sub hl [1, 2, 3, 0] rfl)
  · replace h := if_no hq h
    refine lv_lload hx hb dX9_findStretch_137 (lv_at hl 4 rfl) ?_
    refine lv_aload_n hx hb dX9_findStretch_139 rfl (lv_at hl 0 rfl) ?_
    refine gzWM_HiddenEdgesModel_endDown hc hP q_551 dX9_findStretch_140 ?_
    refine z_lmul hx hb dX9_findStretch_143 ?_
    refine lv_aload_n hx hb dX9_findStretch_144 rfl (lv_at hl 0 rfl) ?_
    refine gzWM_HiddenEdgesModel_endUp hc hP q_550 dX9_findStretch_145 ?_
    refine lv_lload hx hb dX9_findStretch_148 (lv_at hl 4 rfl) ?_
    refine lv_lload hx hb dX9_findStretch_150 (lv_at hl 5 rfl) ?_
    refine z_lsub hx hb dX9_findStretch_152 ?_
    refine z_lmul hx hb dX9_findStretch_153 ?_
    refine W.lcmp hx hb dX9_findStretch_154 ?_
    obtain ⟨h4, h⟩ := chk_at h
    obtain ⟨h5, h⟩ := chk_at h
    refine zc_if_ge (tgt := 173) hx hb h4 h5 dX9_findStretch_155 (by decide) (fun hq => ?_) (fun hq => ?_)
    · replace h := if_yes hq h
      obtain ⟨x6, ex6⟩ : ∃ y : Int, y = v3 + (1 : Int) := ⟨_, rfl⟩
      replace h := olet_at ex6 h
      refine lv_iinc (v := Int32.ofInt x6) (lv' := [(3, .int (Int32.ofInt x6)), (0, .ref (a 0)), (1, .int (Int32.ofInt v1)), (2, .int (Int32.ofInt v2)), (4, .long (Int64.ofInt v4)), (6, .long (Int64.ofInt v6))]) hx hb dX9_findStretch_173 hl (k := 3) rfl (by rw [ex6, Int32.ofInt_add]) (by decide) rfl (fun ls hl => ?_)
      refine lv_goto (tgt := 34) hx hb dX9_findStretch_176 (by decide) ?_
      exact K34 S v1 v2 x6 h H locs ls hP hS (lv_sub hl [1, 2, 3, 0] rfl)
    · replace h := if_no hq h
      refine lv_aload_n hx hb dX9_findStretch_158 rfl (lv_at hl 0 rfl) ?_
      refine lv_lload hx hb dX9_findStretch_159 (lv_at hl 4 rfl) ?_
      refine pzWM_HiddenEdgesModel_endUp hc hP hS q_550 dX9_findStretch_161 (fun H locs hP hS => ?_)
      obtain ⟨S7, eS7⟩ : ∃ z, z = ul S 2 v4 := ⟨_, rfl⟩
      replace h := olet_at eS7 h
      rw [← eS7] at hP
      refine lv_aload_n hx hb dX9_findStretch_164 rfl (lv_at hl 0 rfl) ?_
      refine lv_lload hx hb dX9_findStretch_165 (lv_at hl 4 rfl) ?_
      refine lv_lload hx hb dX9_findStretch_167 (lv_at hl 5 rfl) ?_
      refine z_lsub hx hb dX9_findStretch_169 ?_
      refine pzWM_HiddenEdgesModel_endDown hc hP hS q_551 dX9_findStretch_170 (fun H locs hP hS => ?_)
      obtain ⟨S8, eS8⟩ : ∃ z, z = ul S7 3 (v4 - v6) := ⟨_, rfl⟩
      replace h := olet_at eS8 h
      rw [← eS8] at hP
      obtain ⟨x9, ex9⟩ : ∃ y : Int, y = v3 + (1 : Int) := ⟨_, rfl⟩
      replace h := olet_at ex9 h
      refine lv_iinc (v := Int32.ofInt x9) (lv' := [(3, .int (Int32.ofInt x9)), (0, .ref (a 0)), (1, .int (Int32.ofInt v1)), (2, .int (Int32.ofInt v2)), (4, .long (Int64.ofInt v4)), (6, .long (Int64.ofInt v6))]) hx hb dX9_findStretch_173 hl (k := 3) rfl (by rw [ex9, Int32.ofInt_add]) (by decide) rfl (fun ls hl => ?_)
      refine lv_goto (tgt := 34) hx hb dX9_findStretch_176 (by decide) ?_
      exact K34 S8 v1 v2 x9 h H locs ls hP hS (lv_sub hl [1, 2, 3, 0] rfl)
set_option maxHeartbeats 4000000 in
set_option maxRecDepth 100000 in
theorem t_X9_findStretch_p83 {z : SZ × Int} (hc : Cx p R s m args c D (tysWM g) A (WM a g) cX9_findStretch 8 RX9 4 106) (hr : Rtz p l e R s m args below meth c Q D A (WM a g) cX9_findStretch (em z.1, Int32.ofInt z.2)) {k34 : SZ → Int → Int → Int → Option (SZ × Int)} (K34 : ∀ (S : SZ) (v1 : Int) (v2 : Int) (v3 : Int), k34 S v1 v2 v3 = some z → Go p l e R s m args below meth c Q D A (WM a g) 8 (em S) 34 [(0, .ref (a 0)), (1, .int (Int32.ofInt v1)), (2, .int (Int32.ofInt v2)), (3, .int (Int32.ofInt v3))] []) : ∀ (S : SZ) (v1 : Int) (v2 : Int) (v3 : Int) (v4 : Int) (v6 : Int), f_X9_findStretch_p83 k34 S v1 v2 v3 v4 v6 = some z → Go p l e R s m args below meth c Q D A (WM a g) 8 (em S) 83 [(0, .ref (a 0)), (1, .int (Int32.ofInt v1)), (2, .int (Int32.ofInt v2)), (3, .int (Int32.ofInt v3)), (4, .long (Int64.ofInt v4)), (6, .long (Int64.ofInt v6))] [] := by
  obtain ⟨⟨hx, hb, hml, hown, hts⟩, -, -, -, hnf, hno⟩ := id hc
  intro S v1 v2 v3 v4 v6 h H locs ls hP hS hl
  rw [f_X9_findStretch_p83] at h
  refine lv_lload hx hb dX9_findStretch_83 (lv_at hl 4 rfl) ?_
  refine lv_lload hx hb dX9_findStretch_85 (lv_at hl 5 rfl) ?_
  refine W.lcmp hx hb dX9_findStretch_87 ?_
  obtain ⟨h1, h⟩ := chk_at h
  obtain ⟨h2, h⟩ := chk_at h
  refine zc_if_ge (tgt := 129) hx hb h1 h2 dX9_findStretch_88 (by decide) (fun hq => ?_) (fun hq => ?_)
  · replace h := if_yes hq h
    exact t_X9_findStretch_p129 hc hr K34 S v1 v2 v3 v4 v6 h H locs ls hP hS (lv_sub hl [0, 1, 2, 3, 4, 5] rfl)
  · replace h := if_no hq h
    refine lv_lload hx hb dX9_findStretch_91 (lv_at hl 4 rfl) ?_
    refine z_lneg hx hb dX9_findStretch_93 ?_
    refine lv_aload_n hx hb dX9_findStretch_94 rfl (lv_at hl 0 rfl) ?_
    refine gzWM_HiddenEdgesModel_beginDown hc hP q_549 dX9_findStretch_95 ?_
    refine z_lmul hx hb dX9_findStretch_98 ?_
    refine lv_aload_n hx hb dX9_findStretch_99 rfl (lv_at hl 0 rfl) ?_
    refine gzWM_HiddenEdgesModel_beginUp hc hP q_548 dX9_findStretch_100 ?_
    refine lv_lload hx hb dX9_findStretch_103 (lv_at hl 5 rfl) ?_
    refine lv_lload hx hb dX9_findStretch_105 (lv_at hl 4 rfl) ?_
    refine z_lsub hx hb dX9_findStretch_107 ?_
    refine z_lmul hx hb dX9_findStretch_108 ?_
    refine W.lcmp hx hb dX9_findStretch_109 ?_
    obtain ⟨h3, h⟩ := chk_at h
    obtain ⟨h4, h⟩ := chk_at h
    refine zc_if_le (tgt := 129) hx hb h3 h4 dX9_findStretch_110 (by decide) (fun hq => ?_) (fun hq => ?_)
    · replace h := if_yes hq h
      exact t_X9_findStretch_p129 hc hr K34 S v1 v2 v3 v4 v6 h H locs ls hP hS (lv_sub hl [0, 1, 2, 3, 4, 5] rfl)
    · replace h := if_no hq h
      refine lv_aload_n hx hb dX9_findStretch_113 rfl (lv_at hl 0 rfl) ?_
      refine lv_lload hx hb dX9_findStretch_114 (lv_at hl 4 rfl) ?_
      refine z_lneg hx hb dX9_findStretch_116 ?_
      refine pzWM_HiddenEdgesModel_beginUp hc hP hS q_548 dX9_findStretch_117 (fun H locs hP hS => ?_)
      obtain ⟨S5, eS5⟩ : ∃ z, z = ul S 0 (-v4) := ⟨_, rfl⟩
      replace h := olet_at eS5 h
      rw [← eS5] at hP
      refine lv_aload_n hx hb dX9_findStretch_120 rfl (lv_at hl 0 rfl) ?_
      refine lv_lload hx hb dX9_findStretch_121 (lv_at hl 5 rfl) ?_
      refine lv_lload hx hb dX9_findStretch_123 (lv_at hl 4 rfl) ?_
      refine z_lsub hx hb dX9_findStretch_125 ?_
      refine pzWM_HiddenEdgesModel_beginDown hc hP hS q_549 dX9_findStretch_126 (fun H locs hP hS => ?_)
      obtain ⟨S6, eS6⟩ : ∃ z, z = ul S5 1 (v6 - v4) := ⟨_, rfl⟩
      replace h := olet_at eS6 h
      rw [← eS6] at hP
      exact t_X9_findStretch_p129 hc hr K34 S6 v1 v2 v3 v4 v6 h H locs ls hP hS (lv_sub hl [0, 1, 2, 3, 4, 5] rfl)
set_option maxHeartbeats 4000000 in
set_option maxRecDepth 100000 in
theorem t_X9_findStretch_p34 {z : SZ × Int} (hc : Cx p R s m args c D (tysWM g) A (WM a g) cX9_findStretch 8 RX9 4 106) (hr : Rtz p l e R s m args below meth c Q D A (WM a g) cX9_findStretch (em z.1, Int32.ofInt z.2)) : ∀ (fu : Nat) (S : SZ) (v1 : Int) (v2 : Int) (v3 : Int), f_X9_findStretch_p34 fu S v1 v2 v3 = some z → Go p l e R s m args below meth c Q D A (WM a g) 8 (em S) 34 [(0, .ref (a 0)), (1, .int (Int32.ofInt v1)), (2, .int (Int32.ofInt v2)), (3, .int (Int32.ofInt v3))] [] := by
  obtain ⟨⟨hx, hb, hml, hown, hts⟩, -, -, -, hnf, hno⟩ := id hc
  intro fu
  induction fu with
  | zero =>
    intro S v1 v2 v3 h
    rw [f_X9_findStretch_p34] at h
    cases h
  | succ fu ih =>
    intro S v1 v2 v3 h H locs ls hP hS hl
    rw [f_X9_findStretch_p34] at h
    refine lv_iload_n hx hb dX9_findStretch_34 rfl (lv_at hl 3 rfl) ?_
    refine lv_iconst (v := Int32.ofInt (4 : Int)) hx hb dX9_findStretch_35 (by decide) ?_
    obtain ⟨h1, h⟩ := chk_at h
    refine z_icmp_ge (tgt := 179) hx hb h1 (by decide) dX9_findStretch_36 (by decide) (fun hq => ?_) (fun hq => ?_)
    · replace h := if_yes hq h
      refine lv_aload_n hx hb dX9_findStretch_179 rfl (lv_at hl 0 rfl) ?_
      refine gzWM_HiddenEdgesModel_beginUp hc hP q_548 dX9_findStretch_180 ?_
      refine lv_aload_n hx hb dX9_findStretch_183 rfl (lv_at hl 0 rfl) ?_
      refine gzWM_HiddenEdgesModel_endDown hc hP q_551 dX9_findStretch_184 ?_
      refine z_lmul hx hb dX9_findStretch_187 ?_
      refine lv_aload_n hx hb dX9_findStretch_188 rfl (lv_at hl 0 rfl) ?_
      refine gzWM_HiddenEdgesModel_endUp hc hP q_550 dX9_findStretch_189 ?_
      refine lv_aload_n hx hb dX9_findStretch_192 rfl (lv_at hl 0 rfl) ?_
      refine gzWM_HiddenEdgesModel_beginDown hc hP q_549 dX9_findStretch_193 ?_
      refine z_lmul hx hb dX9_findStretch_196 ?_
      refine W.lcmp hx hb dX9_findStretch_197 ?_
      obtain ⟨h2, h⟩ := chk_at h
      obtain ⟨h3, h⟩ := chk_at h
      refine zc_if_ge (tgt := 205) hx hb h2 h3 dX9_findStretch_198 (by decide) (fun hq => ?_) (fun hq => ?_)
      · replace h := if_yes hq h
        refine lv_iconst (v := Int32.ofInt (0 : Int)) hx hb dX9_findStretch_205 (by decide) ?_
        obtain rfl := Option.some.inj h
        exact hr (bit_of (Or.inl rfl)) _ _ _ _ dX9_findStretch_206 hP hS
      · replace h := if_no hq h
        refine lv_iconst (v := Int32.ofInt (1 : Int)) hx hb dX9_findStretch_201 (by decide) ?_
        refine lv_goto (tgt := 206) hx hb dX9_findStretch_202 (by decide) ?_
        obtain rfl := Option.some.inj h
        exact hr (bit_of (Or.inr rfl)) _ _ _ _ dX9_findStretch_206 hP hS
    · replace h := if_no hq h
      refine lv_aload_n hx hb dX9_findStretch_39 rfl (lv_at hl 0 rfl) ?_
      refine lv_iload_n hx hb dX9_findStretch_40 rfl (lv_at hl 2 rfl) ?_
      refine lv_iload_n hx hb dX9_findStretch_41 rfl (lv_at hl 3 rfl) ?_
      refine lv_aload_n hx hb dX9_findStretch_42 rfl (lv_at hl 0 rfl) ?_
      refine gfWM_HiddenEdgesModel_edgeOne hc hP q_108 dX9_findStretch_43 ?_
      refine lv_iload_n hx hb dX9_findStretch_46 rfl (lv_at hl 1 rfl) ?_
      obtain ⟨h4, h⟩ := chk_at h
      refine azWM_HiddenEdgesModel_edgeOne hc hP h4 dX9_findStretch_47 ?_
      obtain ⟨S5, x7, hk6, h⟩ := ob2_at h
      refine cl_Vl (As := [.int (Int32.ofInt v2), .int (Int32.ofInt v3), .int (Int32.ofInt (za S 8 (v1).toNat))]) (rest := []) hc k_X9_against q_586 (c_X9_against hk6) hP hS (WM_0 a g (em S)) rfl rfl rfl hl (Nat.le_of_ble_eq_true rfl) dX9_findStretch_48 (Nat.le_of_ble_eq_true rfl) (Nat.le_of_ble_eq_true rfl) rfl (fun H locs hP hS => ?_)
      refine lv_lstore (lv' := [(4, .long (Int64.ofInt x7)), (0, .ref (a 0)), (1, .int (Int32.ofInt v1)), (2, .int (Int32.ofInt v2)), (3, .int (Int32.ofInt v3))]) hx hb dX9_findStretch_51 hl (by decide) rfl (fun ls hl => ?_)
      refine lv_aload_n hx hb dX9_findStretch_53 rfl (lv_at hl 1 rfl) ?_
      refine lv_iload_n hx hb dX9_findStretch_54 rfl (lv_at hl 3 rfl) ?_
      refine lv_iload_n hx hb dX9_findStretch_55 rfl (lv_at hl 4 rfl) ?_
      refine lv_aload_n hx hb dX9_findStretch_56 rfl (lv_at hl 1 rfl) ?_
      refine gfWM_HiddenEdgesModel_edgeOther hc hP q_109 dX9_findStretch_57 ?_
      refine lv_iload_n hx hb dX9_findStretch_60 rfl (lv_at hl 2 rfl) ?_
      refine azWM_HiddenEdgesModel_edgeOther hc hP h4 dX9_findStretch_61 ?_
      obtain ⟨S8, x10, hk9, h⟩ := ob2_at h
      refine cl_Vl (As := [.int (Int32.ofInt v2), .int (Int32.ofInt v3), .int (Int32.ofInt (za S5 9 (v1).toNat))]) (rest := []) hc k_X9_against q_586 (c_X9_against hk9) hP hS (WM_0 a g (em S5)) rfl rfl rfl hl (Nat.le_of_ble_eq_true rfl) dX9_findStretch_62 (Nat.le_of_ble_eq_true rfl) (Nat.le_of_ble_eq_true rfl) rfl (fun H locs hP hS => ?_)
      refine lv_lstore (lv' := [(6, .long (Int64.ofInt x10)), (4, .long (Int64.ofInt x7)), (0, .ref (a 0)), (1, .int (Int32.ofInt v1)), (2, .int (Int32.ofInt v2)), (3, .int (Int32.ofInt v3))]) hx hb dX9_findStretch_65 hl (by decide) rfl (fun ls hl => ?_)
      refine lv_lload hx hb dX9_findStretch_67 (lv_at hl 1 rfl) ?_
      refine lv_lconst (v := Int64.ofInt (0 : Int)) hx hb dX9_findStretch_69 (by decide) ?_
      refine W.lcmp hx hb dX9_findStretch_70 ?_
      obtain ⟨h11, h⟩ := chk_at h
      refine zc_if_gt (tgt := 83) hx hb h11 (by decide) dX9_findStretch_71 (by decide) (fun hq => ?_) (fun hq => ?_)
      · replace h := if_yes hq h
        exact t_X9_findStretch_p83 hc hr ih S8 v1 v2 v3 x7 x10 h H locs ls hP hS (lv_sub hl [2, 3, 4, 5, 1, 0] rfl)
      · replace h := if_no hq h
        refine lv_lload hx hb dX9_findStretch_74 (lv_at hl 0 rfl) ?_
        refine lv_lconst (v := Int64.ofInt (0 : Int)) hx hb dX9_findStretch_76 (by decide) ?_
        refine W.lcmp hx hb dX9_findStretch_77 ?_
        obtain ⟨h12, h⟩ := chk_at h
        refine zc_if_gt (tgt := 83) hx hb h12 (by decide) dX9_findStretch_78 (by decide) (fun hq => ?_) (fun hq => ?_)
        · replace h := if_yes hq h
          exact t_X9_findStretch_p83 hc hr ih S8 v1 v2 v3 x7 x10 h H locs ls hP hS (lv_sub hl [2, 3, 4, 5, 1, 0] rfl)
        · replace h := if_no hq h
          refine lv_iconst (v := Int32.ofInt (0 : Int)) hx hb dX9_findStretch_81 (by decide) ?_
          obtain rfl := Option.some.inj h
          exact hr (bit_of (Or.inl rfl)) _ _ _ _ dX9_findStretch_82 hP hS
set_option maxHeartbeats 4000000 in
set_option maxRecDepth 100000 in
theorem t_X9_findStretch {z : SZ × Int} (hc : Cx p R s m args c D (tysWM g) A (WM a g) cX9_findStretch 8 RX9 4 106) (hr : Rtz p l e R s m args below meth c Q D A (WM a g) cX9_findStretch (em z.1, Int32.ofInt z.2)) : ∀ (S : SZ) (v1 : Int) (v2 : Int), f_X9_findStretch S v1 v2 = some z → Go p l e R s m args below meth c Q D A (WM a g) 8 (em S) 0 [(0, .ref (a 0)), (1, .int (Int32.ofInt v1)), (2, .int (Int32.ofInt v2))] [] := by
  obtain ⟨⟨hx, hb, hml, hown, hts⟩, -, -, -, hnf, hno⟩ := id hc
  intro S v1 v2 h H locs ls hP hS hl
  rw [f_X9_findStretch] at h
  replace hl : lv_has ls 8 [(0, .ref (a 0)), (1, .int (Int32.ofInt v1)), (2, .int (Int32.ofInt v2))] := hl
  refine lv_aload_n hx hb dX9_findStretch_0 rfl (lv_at hl 0 rfl) ?_
  refine lv_lconst (v := Int64.ofInt (0 : Int)) hx hb dX9_findStretch_1 (by decide) ?_
  refine pzWM_HiddenEdgesModel_beginUp hc hP hS q_548 dX9_findStretch_2 (fun H locs hP hS => ?_)
  obtain ⟨S1, eS1⟩ : ∃ z, z = ul S 0 (0 : Int) := ⟨_, rfl⟩
  replace h := olet_at eS1 h
  rw [← eS1] at hP
  refine lv_aload_n hx hb dX9_findStretch_5 rfl (lv_at hl 0 rfl) ?_
  refine lv_lconst (v := Int64.ofInt (1 : Int)) hx hb dX9_findStretch_6 (by decide) ?_
  refine pzWM_HiddenEdgesModel_beginDown hc hP hS q_549 dX9_findStretch_7 (fun H locs hP hS => ?_)
  obtain ⟨S2, eS2⟩ : ∃ z, z = ul S1 1 (1 : Int) := ⟨_, rfl⟩
  replace h := olet_at eS2 h
  rw [← eS2] at hP
  refine lv_aload_n hx hb dX9_findStretch_10 rfl (lv_at hl 0 rfl) ?_
  refine lv_lconst (v := Int64.ofInt (1 : Int)) hx hb dX9_findStretch_11 (by decide) ?_
  refine pzWM_HiddenEdgesModel_endUp hc hP hS q_550 dX9_findStretch_12 (fun H locs hP hS => ?_)
  obtain ⟨S3, eS3⟩ : ∃ z, z = ul S2 2 (1 : Int) := ⟨_, rfl⟩
  replace h := olet_at eS3 h
  rw [← eS3] at hP
  refine lv_aload_n hx hb dX9_findStretch_15 rfl (lv_at hl 0 rfl) ?_
  refine lv_lconst (v := Int64.ofInt (1 : Int)) hx hb dX9_findStretch_16 (by decide) ?_
  refine pzWM_HiddenEdgesModel_endDown hc hP hS q_551 dX9_findStretch_17 (fun H locs hP hS => ?_)
  obtain ⟨S4, eS4⟩ : ∃ z, z = ul S3 3 (1 : Int) := ⟨_, rfl⟩
  replace h := olet_at eS4 h
  rw [← eS4] at hP
  refine lv_aload_n hx hb dX9_findStretch_20 rfl (lv_at hl 0 rfl) ?_
  refine lv_iload_n hx hb dX9_findStretch_21 rfl (lv_at hl 2 rfl) ?_
  obtain ⟨S5, x7, hk6, h⟩ := ob2_at h
  refine cl_Vl (As := [.int (Int32.ofInt v2)]) (rest := []) hc k_X9_turnOf q_571 (c_X9_turnOf hk6) hP hS (WM_0 a g (em S4)) rfl rfl rfl hl (Nat.le_of_ble_eq_true rfl) dX9_findStretch_22 (Nat.le_of_ble_eq_true rfl) (Nat.le_of_ble_eq_true rfl) rfl (fun H locs hP hS => ?_)
  refine lv_lconst (v := Int64.ofInt (0 : Int)) hx hb dX9_findStretch_25 (by decide) ?_
  refine W.lcmp hx hb dX9_findStretch_26 ?_
  obtain ⟨h8, h⟩ := chk_at h
  refine zc_if_ne (tgt := 32) hx hb h8 (by decide) dX9_findStretch_27 (by decide) (fun hq => ?_) (fun hq => ?_)
  · replace h := if_no hq h
    refine lv_iconst (v := Int32.ofInt (0 : Int)) hx hb dX9_findStretch_32 (by decide) ?_
    refine lv_istore_n (lv' := [(3, .int (Int32.ofInt (0 : Int))), (0, .ref (a 0)), (1, .int (Int32.ofInt v1)), (2, .int (Int32.ofInt v2))]) hx hb dX9_findStretch_33 rfl hl (by decide) rfl (fun ls hl => ?_)
    exact t_X9_findStretch_p34 hc hr FU S5 v1 v2 (0 : Int) h H locs ls hP hS (lv_sub hl [1, 2, 3, 0] rfl)
  · replace h := if_yes hq h
    refine lv_iconst (v := Int32.ofInt (0 : Int)) hx hb dX9_findStretch_30 (by decide) ?_
    obtain rfl := Option.some.inj h
    exact hr (bit_of (Or.inl rfl)) _ _ _ _ dX9_findStretch_31 hP hS
abbrev rm_X9_findStretch : Room := { frames := 4, cells := 0, slots := 0, locals := 106 }
theorem c_X9_findStretch {l : Launch} {D : va_G} {a : Nat → Nat} {g : Nat → ClassId} {S : SZ} {v1 : Int} {v2 : Int} {Z1 : SZ} {r1 : Int} (h : f_X9_findStretch S v1 v2 = some (Z1, r1)) : MetI l D (tysWM g) (WM a g) E0 yX9_findStretch cX9_findStretch 8 (some .boolean) rm_X9_findStretch [.ref (a 0), .int (Int32.ofInt v1), .int (Int32.ofInt v2)] (em S) (em Z1, Int32.ofInt r1) := mk_z (WM_same a g) (by decide) (em Z1, Int32.ofInt r1) (Nat.le_of_ble_eq_true rfl) (fun p e s m args below meth c A Q hc hE hr => t_X9_findStretch (z := (Z1, r1)) hc hr S v1 v2 h)
theorem k_X9_findStretch : CalV RX9 yX9_findStretch cX9_findStretch 8 (some .boolean) rm_X9_findStretch 2 := ⟨q_583, q_584, q_5, q_585, by decide +kernel, rfl, rfl⟩
set_option maxHeartbeats 4000000 in
set_option maxRecDepth 100000 in
theorem t_X9_quantityBy_p97 {z : SZ × Int} (hc : Cx p R s m args c D (tysWM g) A (WM a g) cX9_quantityBy 7 RX9 5 133) (hr : Rti p l e R s m args below meth c Q D A (WM a g) cX9_quantityBy (em z.1, Int32.ofInt z.2)) {k13 : SZ → Int → Int → Int → Int → Option (SZ × Int)} (K13 : ∀ (S : SZ) (v1 : Int) (v3 : Int) (v4 : Int) (v5 : Int), k13 S v1 v3 v4 v5 = some z → Go p l e R s m args below meth c Q D A (WM a g) 7 (em S) 13 [(0, .ref (a 0)), (1, .int (Int32.ofInt v1)), (3, .int (Int32.ofInt v3)), (4, .int (Int32.ofInt v4)), (5, .int (Int32.ofInt v5))] []) : ∀ (S : SZ) (v1 : Int) (v3 : Int) (v4 : Int) (v5 : Int) (s0 : Int), f_X9_quantityBy_p97 k13 S v1 v3 v4 v5 s0 = some z → Go p l e R s m args below meth c Q D A (WM a g) 7 (em S) 97 [(0, .ref (a 0)), (1, .int (Int32.ofInt v1)), (3, .int (Int32.ofInt v3)), (4, .int (Int32.ofInt v4)), (5, .int (Int32.ofInt v5))] [.int (Int32.ofInt s0)] := by
  obtain ⟨⟨hx, hb, hml, hown, hts⟩, -, -, -, hnf, hno⟩ := id hc
  intro S v1 v3 v4 v5 s0 h H locs ls hP hS hl
  rw [f_X9_quantityBy_p97] at h
  refine lv_istore (lv' := [(6, .int (Int32.ofInt s0)), (0, .ref (a 0)), (1, .int (Int32.ofInt v1)), (3, .int (Int32.ofInt v3)), (4, .int (Int32.ofInt v4)), (5, .int (Int32.ofInt v5))]) hx hb dX9_quantityBy_97 hl (by decide) rfl (fun ls hl => ?_)
  refine lv_iload hx hb dX9_quantityBy_99 (lv_at hl 4 rfl) ?_
  refine lv_iload hx hb dX9_quantityBy_101 (lv_at hl 0 rfl) ?_
  obtain ⟨h1, h⟩ := chk_at h
  refine z_if_eq (tgt := 110) hx hb h1 dX9_quantityBy_103 (by decide) (fun hq => ?_) (fun hq => ?_)
  · replace h := if_yes hq h
    refine lv_iconst (v := Int32.ofInt (0 : Int)) hx hb dX9_quantityBy_110 (by decide) ?_
    refine z_iadd hx hb dX9_quantityBy_111 ?_
    refine z_topi (fun x2 ex2 => ?_)
    replace h := olet_at ex2 h
    refine lv_istore (lv' := [(4, .int (Int32.ofInt x2)), (6, .int (Int32.ofInt s0)), (0, .ref (a 0)), (1, .int (Int32.ofInt v1)), (3, .int (Int32.ofInt v3)), (5, .int (Int32.ofInt v5))]) hx hb dX9_quantityBy_112 hl (by decide) rfl (fun ls hl => ?_)
    obtain ⟨x3, ex3⟩ : ∃ y : Int, y = v5 + (1 : Int) := ⟨_, rfl⟩
    replace h := olet_at ex3 h
    refine lv_iinc (v := Int32.ofInt x3) (lv' := [(5, .int (Int32.ofInt x3)), (4, .int (Int32.ofInt x2)), (6, .int (Int32.ofInt s0)), (0, .ref (a 0)), (1, .int (Int32.ofInt v1)), (3, .int (Int32.ofInt v3))]) hx hb dX9_quantityBy_114 hl (k := 5) rfl (by rw [ex3, Int32.ofInt_add]) (by decide) rfl (fun ls hl => ?_)
    refine lv_goto (tgt := 13) hx hb dX9_quantityBy_117 (by decide) ?_
    exact K13 S v1 v3 x2 x3 h H locs ls hP hS (lv_sub hl [3, 4, 5, 1, 0] rfl)
  · replace h := if_no hq h
    refine lv_iconst (v := Int32.ofInt (1 : Int)) hx hb dX9_quantityBy_106 (by decide) ?_
    refine lv_goto (tgt := 111) hx hb dX9_quantityBy_107 (by decide) ?_
    refine z_iadd hx hb dX9_quantityBy_111 ?_
    refine z_topi (fun x4 ex4 => ?_)
    replace h := olet_at ex4 h
    refine lv_istore (lv' := [(4, .int (Int32.ofInt x4)), (6, .int (Int32.ofInt s0)), (0, .ref (a 0)), (1, .int (Int32.ofInt v1)), (3, .int (Int32.ofInt v3)), (5, .int (Int32.ofInt v5))]) hx hb dX9_quantityBy_112 hl (by decide) rfl (fun ls hl => ?_)
    obtain ⟨x5, ex5⟩ : ∃ y : Int, y = v5 + (1 : Int) := ⟨_, rfl⟩
    replace h := olet_at ex5 h
    refine lv_iinc (v := Int32.ofInt x5) (lv' := [(5, .int (Int32.ofInt x5)), (4, .int (Int32.ofInt x4)), (6, .int (Int32.ofInt s0)), (0, .ref (a 0)), (1, .int (Int32.ofInt v1)), (3, .int (Int32.ofInt v3))]) hx hb dX9_quantityBy_114 hl (k := 5) rfl (by rw [ex5, Int32.ofInt_add]) (by decide) rfl (fun ls hl => ?_)
    refine lv_goto (tgt := 13) hx hb dX9_quantityBy_117 (by decide) ?_
    exact K13 S v1 v3 x4 x5 h H locs ls hP hS (lv_sub hl [3, 4, 5, 1, 0] rfl)
set_option maxHeartbeats 4000000 in
set_option maxRecDepth 100000 in
theorem t_X9_quantityBy_p13 {z : SZ × Int} (hc : Cx p R s m args c D (tysWM g) A (WM a g) cX9_quantityBy 7 RX9 5 133) (hr : Rti p l e R s m args below meth c Q D A (WM a g) cX9_quantityBy (em z.1, Int32.ofInt z.2)) : ∀ (fu : Nat) (S : SZ) (v1 : Int) (v3 : Int) (v4 : Int) (v5 : Int), f_X9_quantityBy_p13 fu S v1 v3 v4 v5 = some z → Go p l e R s m args below meth c Q D A (WM a g) 7 (em S) 13 [(0, .ref (a 0)), (1, .int (Int32.ofInt v1)), (3, .int (Int32.ofInt v3)), (4, .int (Int32.ofInt v4)), (5, .int (Int32.ofInt v5))] [] := by
  obtain ⟨⟨hx, hb, hml, hown, hts⟩, -, -, -, hnf, hno⟩ := id hc
  intro fu
  induction fu with
  | zero =>
    intro S v1 v3 v4 v5 h
    rw [f_X9_quantityBy_p13] at h
    cases h
  | succ fu ih =>
    intro S v1 v3 v4 v5 h H locs ls hP hS hl
    rw [f_X9_quantityBy_p13] at h
    refine lv_iload hx hb dX9_quantityBy_13 (lv_at hl 4 rfl) ?_
    refine lv_aload_n hx hb dX9_quantityBy_15 rfl (lv_at hl 0 rfl) ?_
    refine gzWM_HiddenEdgesModel_faces hc hP q_207 dX9_quantityBy_16 ?_
    obtain ⟨h1, h⟩ := chk_at h
    obtain ⟨h2, h⟩ := chk_at h
    refine z_icmp_ge (tgt := 120) hx hb h1 h2 dX9_quantityBy_19 (by decide) (fun hq => ?_) (fun hq => ?_)
    · replace h := if_yes hq h
      refine lv_iload hx hb dX9_quantityBy_120 (lv_at hl 3 rfl) ?_
      obtain rfl := Option.some.inj h
      exact hr _ _ _ _ dX9_quantityBy_122 hP hS
    · replace h := if_no hq h
      refine lv_aload_n hx hb dX9_quantityBy_22 rfl (lv_at hl 0 rfl) ?_
      refine lv_iload_n hx hb dX9_quantityBy_23 rfl (lv_at hl 1 rfl) ?_
      refine lv_iload hx hb dX9_quantityBy_24 (lv_at hl 4 rfl) ?_
      obtain ⟨S3, x5, hk4, h⟩ := ob2_at h
      refine cl_Vi (As := [.int (Int32.ofInt v1), .int (Int32.ofInt v5)]) (rest := []) hc k_X9_findStretch q_582 (c_X9_findStretch hk4) hP hS (WM_0 a g (em S)) rfl rfl rfl hl (Nat.le_of_ble_eq_true rfl) dX9_quantityBy_26 (Nat.le_of_ble_eq_true rfl) (Nat.le_of_ble_eq_true rfl) rfl (fun H locs hP hS => ?_)
      refine lv_istore (lv' := [(6, .int (Int32.ofInt x5)), (0, .ref (a 0)), (1, .int (Int32.ofInt v1)), (3, .int (Int32.ofInt v3)), (4, .int (Int32.ofInt v4)), (5, .int (Int32.ofInt v5))]) hx hb dX9_quantityBy_29 hl (by decide) rfl (fun ls hl => ?_)
      refine lv_iload hx hb dX9_quantityBy_31 (lv_at hl 0 rfl) ?_
      obtain ⟨h6, h⟩ := chk_at h
      refine z_if_eq (tgt := 96) hx hb h6 dX9_quantityBy_33 (by decide) (fun hq => ?_) (fun hq => ?_)
      · replace h := if_yes hq h
        refine lv_iconst (v := Int32.ofInt (0 : Int)) hx hb dX9_quantityBy_96 (by decide) ?_
        exact t_X9_quantityBy_p97 hc hr ih S3 v1 v3 v4 v5 (0 : Int) h H locs ls hP hS (lv_sub hl [1, 2, 3, 4, 5] rfl)
      · replace h := if_no hq h
        refine lv_aload_n hx hb dX9_quantityBy_36 rfl (lv_at hl 1 rfl) ?_
        refine gzWM_HiddenEdgesModel_beginUp hc hP q_548 dX9_quantityBy_37 ?_
        refine lv_aload_n hx hb dX9_quantityBy_40 rfl (lv_at hl 1 rfl) ?_
        refine gfWM_HiddenEdgesModel_cutDown hc hP q_114 dX9_quantityBy_41 ?_
        refine lv_iload_n hx hb dX9_quantityBy_44 rfl (lv_at hl 3 rfl) ?_
        obtain ⟨h7, h⟩ := chk_at h
        refine azWM_HiddenEdgesModel_cutDown hc hP h7 dX9_quantityBy_45 ?_
        refine z_lmul hx hb dX9_quantityBy_46 ?_
        refine lv_aload_n hx hb dX9_quantityBy_47 rfl (lv_at hl 1 rfl) ?_
        refine gfWM_HiddenEdgesModel_cutUp hc hP q_113 dX9_quantityBy_48 ?_
        refine lv_iload_n hx hb dX9_quantityBy_51 rfl (lv_at hl 3 rfl) ?_
        refine azWM_HiddenEdgesModel_cutUp hc hP h7 dX9_quantityBy_52 ?_
        refine lv_aload_n hx hb dX9_quantityBy_53 rfl (lv_at hl 1 rfl) ?_
        refine gzWM_HiddenEdgesModel_beginDown hc hP q_549 dX9_quantityBy_54 ?_
        refine z_lmul hx hb dX9_quantityBy_57 ?_
        refine W.lcmp hx hb dX9_quantityBy_58 ?_
        obtain ⟨h8, h⟩ := chk_at h
        obtain ⟨h9, h⟩ := chk_at h
        refine zc_if_gt (tgt := 96) hx hb h8 h9 dX9_quantityBy_59 (by decide) (fun hq => ?_) (fun hq => ?_)
        · replace h := if_yes hq h
          refine lv_iconst (v := Int32.ofInt (0 : Int)) hx hb dX9_quantityBy_96 (by decide) ?_
          exact t_X9_quantityBy_p97 hc hr ih S3 v1 v3 v4 v5 (0 : Int) h H locs ls hP hS (lv_sub hl [1, 2, 3, 4, 5] rfl)
        · replace h := if_no hq h
          refine lv_aload_n hx hb dX9_quantityBy_62 rfl (lv_at hl 1 rfl) ?_
          refine gzWM_HiddenEdgesModel_endUp hc hP q_550 dX9_quantityBy_63 ?_
          refine lv_aload_n hx hb dX9_quantityBy_66 rfl (lv_at hl 1 rfl) ?_
          refine gfWM_HiddenEdgesModel_cutDown hc hP q_114 dX9_quantityBy_67 ?_
          refine lv_iload_n hx hb dX9_quantityBy_70 rfl (lv_at hl 3 rfl) ?_
          refine lv_iconst (v := Int32.ofInt (1 : Int)) hx hb dX9_quantityBy_71 (by decide) ?_
          refine z_iadd hx hb dX9_quantityBy_72 ?_
          obtain ⟨h10, h⟩ := chk_at h
          refine azWM_HiddenEdgesModel_cutDown hc hP h10 dX9_quantityBy_73 ?_
          refine z_lmul hx hb dX9_quantityBy_74 ?_
          refine lv_aload_n hx hb dX9_quantityBy_75 rfl (lv_at hl 1 rfl) ?_
          refine gfWM_HiddenEdgesModel_cutUp hc hP q_113 dX9_quantityBy_76 ?_
          refine lv_iload_n hx hb dX9_quantityBy_79 rfl (lv_at hl 3 rfl) ?_
          refine lv_iconst (v := Int32.ofInt (1 : Int)) hx hb dX9_quantityBy_80 (by decide) ?_
          refine z_iadd hx hb dX9_quantityBy_81 ?_
          refine azWM_HiddenEdgesModel_cutUp hc hP h10 dX9_quantityBy_82 ?_
          refine lv_aload_n hx hb dX9_quantityBy_83 rfl (lv_at hl 1 rfl) ?_
          refine gzWM_HiddenEdgesModel_endDown hc hP q_551 dX9_quantityBy_84 ?_
          refine z_lmul hx hb dX9_quantityBy_87 ?_
          refine W.lcmp hx hb dX9_quantityBy_88 ?_
          obtain ⟨h11, h⟩ := chk_at h
          obtain ⟨h12, h⟩ := chk_at h
          refine zc_if_lt (tgt := 96) hx hb h11 h12 dX9_quantityBy_89 (by decide) (fun hq => ?_) (fun hq => ?_)
          · replace h := if_yes hq h
            refine lv_iconst (v := Int32.ofInt (0 : Int)) hx hb dX9_quantityBy_96 (by decide) ?_
            exact t_X9_quantityBy_p97 hc hr ih S3 v1 v3 v4 v5 (0 : Int) h H locs ls hP hS (lv_sub hl [1, 2, 3, 4, 5] rfl)
          · replace h := if_no hq h
            refine lv_iconst (v := Int32.ofInt (1 : Int)) hx hb dX9_quantityBy_92 (by decide) ?_
            refine lv_goto (tgt := 97) hx hb dX9_quantityBy_93 (by decide) ?_
            exact t_X9_quantityBy_p97 hc hr ih S3 v1 v3 v4 v5 (1 : Int) h H locs ls hP hS (lv_sub hl [1, 2, 3, 4, 5] rfl)
set_option maxHeartbeats 4000000 in
set_option maxRecDepth 100000 in
theorem t_X9_quantityBy {z : SZ × Int} (hc : Cx p R s m args c D (tysWM g) A (WM a g) cX9_quantityBy 7 RX9 5 133) (hr : Rti p l e R s m args below meth c Q D A (WM a g) cX9_quantityBy (em z.1, Int32.ofInt z.2)) : ∀ (S : SZ) (v1 : Int) (v2 : Int), f_X9_quantityBy S v1 v2 = some z → Go p l e R s m args below meth c Q D A (WM a g) 7 (em S) 0 [(0, .ref (a 0)), (1, .int (Int32.ofInt v1)), (2, .int (Int32.ofInt v2))] [] := by
  obtain ⟨⟨hx, hb, hml, hown, hts⟩, -, -, -, hnf, hno⟩ := id hc
  intro S v1 v2 h H locs ls hP hS hl
  rw [f_X9_quantityBy] at h
  replace hl : lv_has ls 7 [(0, .ref (a 0)), (1, .int (Int32.ofInt v1)), (2, .int (Int32.ofInt v2))] := hl
  refine lv_bipush (v := Int32.ofInt (50 : Int)) hx hb dX9_quantityBy_0 (by decide) ?_
  refine lv_iload_n hx hb dX9_quantityBy_2 rfl (lv_at hl 1 rfl) ?_
  refine z_imul hx hb dX9_quantityBy_3 ?_
  refine lv_iload_n hx hb dX9_quantityBy_4 rfl (lv_at hl 2 rfl) ?_
  refine z_iadd hx hb dX9_quantityBy_5 ?_
  refine z_topi (fun x1 ex1 => ?_)
  replace h := olet_at ex1 h
  refine lv_istore_n (lv' := [(3, .int (Int32.ofInt x1)), (0, .ref (a 0)), (1, .int (Int32.ofInt v1)), (2, .int (Int32.ofInt v2))]) hx hb dX9_quantityBy_6 rfl hl (by decide) rfl (fun ls hl => ?_)
  refine lv_iconst (v := Int32.ofInt (0 : Int)) hx hb dX9_quantityBy_7 (by decide) ?_
  refine lv_istore (lv' := [(4, .int (Int32.ofInt (0 : Int))), (3, .int (Int32.ofInt x1)), (0, .ref (a 0)), (1, .int (Int32.ofInt v1)), (2, .int (Int32.ofInt v2))]) hx hb dX9_quantityBy_8 hl (by decide) rfl (fun ls hl => ?_)
  refine lv_iconst (v := Int32.ofInt (0 : Int)) hx hb dX9_quantityBy_10 (by decide) ?_
  refine lv_istore (lv' := [(5, .int (Int32.ofInt (0 : Int))), (4, .int (Int32.ofInt (0 : Int))), (3, .int (Int32.ofInt x1)), (0, .ref (a 0)), (1, .int (Int32.ofInt v1)), (2, .int (Int32.ofInt v2))]) hx hb dX9_quantityBy_11 hl (by decide) rfl (fun ls hl => ?_)
  exact t_X9_quantityBy_p13 hc hr FU S v1 x1 (0 : Int) (0 : Int) h H locs ls hP hS (lv_sub hl [3, 4, 2, 1, 0] rfl)
abbrev rm_X9_quantityBy : Room := { frames := 5, cells := 0, slots := 0, locals := 133 }
theorem c_X9_quantityBy {l : Launch} {D : va_G} {a : Nat → Nat} {g : Nat → ClassId} {S : SZ} {v1 : Int} {v2 : Int} {Z1 : SZ} {r1 : Int} (h : f_X9_quantityBy S v1 v2 = some (Z1, r1)) : MetI l D (tysWM g) (WM a g) E0 yX9_quantityBy cX9_quantityBy 7 (some .int) rm_X9_quantityBy [.ref (a 0), .int (Int32.ofInt v1), .int (Int32.ofInt v2)] (em S) (em Z1, Int32.ofInt r1) := mk_i (WM_same a g) (by decide) (em Z1, Int32.ofInt r1) (Nat.le_of_ble_eq_true rfl) (fun p e s m args below meth c A Q hc hE hr => t_X9_quantityBy (z := (Z1, r1)) hc hr S v1 v2 h)
theorem k_X9_quantityBy : CalV RX9 yX9_quantityBy cX9_quantityBy 7 (some .int) rm_X9_quantityBy 2 := ⟨q_591, q_592, q_5, q_593, by decide +kernel, rfl, rfl⟩
set_option maxHeartbeats 4000000 in
set_option maxRecDepth 100000 in
theorem t_X9_findEdge_p159 {z : SZ} (hc : Cx p R s m args c D (tysWM g) A (WM a g) cX9_findEdge 6 RX9 6 159) (hr : Rtv p l e R s m args below meth c Q D A (WM a g) cX9_findEdge (em z)) : ∀ (fu : Nat) (S : SZ) (v4 : Int) (v5 : Int), f_X9_findEdge_p159 fu S v4 v5 = some z → Go p l e R s m args below meth c Q D A (WM a g) 6 (em S) 159 [(0, .ref (a 0)), (4, .int (Int32.ofInt v4)), (5, .int (Int32.ofInt v5))] [] := by
  obtain ⟨⟨hx, hb, hml, hown, hts⟩, -, -, -, hnf, hno⟩ := id hc
  intro fu
  induction fu with
  | zero =>
    intro S v4 v5 h
    rw [f_X9_findEdge_p159] at h
    cases h
  | succ fu ih =>
    intro S v4 v5 h H locs ls hP hS hl
    rw [f_X9_findEdge_p159] at h
    refine lv_iload hx hb dX9_findEdge_159 (lv_at hl 2 rfl) ?_
    refine lv_iconst (v := Int32.ofInt (1 : Int)) hx hb dX9_findEdge_161 (by decide) ?_
    refine z_iadd hx hb dX9_findEdge_162 ?_
    refine lv_aload_n hx hb dX9_findEdge_163 rfl (lv_at hl 0 rfl) ?_
    refine gfWM_HiddenEdgesModel_manyCuts hc hP q_112 dX9_findEdge_164 ?_
    refine lv_iload hx hb dX9_findEdge_167 (lv_at hl 1 rfl) ?_
    obtain ⟨h1, h⟩ := chk_at h
    refine azWM_HiddenEdgesModel_manyCuts hc hP h1 dX9_findEdge_169 ?_
    obtain ⟨h2, h⟩ := chk_at h
    obtain ⟨h3, h⟩ := chk_at h
    refine z_icmp_ge (tgt := 200) hx hb h2 h3 dX9_findEdge_170 (by decide) (fun hq => ?_) (fun hq => ?_)
    · replace h := if_yes hq h
      obtain rfl := Option.some.inj h
      exact hr _ _ _ _ dX9_findEdge_200 hP hS
    · replace h := if_no hq h
      refine lv_aload_n hx hb dX9_findEdge_173 rfl (lv_at hl 0 rfl) ?_
      refine gfWM_HiddenEdgesModel_quantity hc hP q_115 dX9_findEdge_174 ?_
      refine lv_bipush (v := Int32.ofInt (50 : Int)) hx hb dX9_findEdge_177 (by decide) ?_
      refine lv_iload hx hb dX9_findEdge_179 (lv_at hl 1 rfl) ?_
      refine z_imul hx hb dX9_findEdge_181 ?_
      refine lv_iload hx hb dX9_findEdge_182 (lv_at hl 2 rfl) ?_
      refine z_iadd hx hb dX9_findEdge_184 ?_
      refine lv_aload_n hx hb dX9_findEdge_185 rfl (lv_at hl 0 rfl) ?_
      refine lv_iload hx hb dX9_findEdge_186 (lv_at hl 1 rfl) ?_
      refine lv_iload hx hb dX9_findEdge_188 (lv_at hl 2 rfl) ?_
      obtain ⟨S4, x6, hk5, h⟩ := ob2_at h
      refine cl_Vi (As := [.int (Int32.ofInt v4), .int (Int32.ofInt v5)]) (rest := [.int (Int32.ofInt (((50 : Int) * v4) + v5)), .ref (a 16)]) hc k_X9_quantityBy q_590 (c_X9_quantityBy hk5) hP hS (WM_0 a g (em S)) rfl rfl rfl hl (Nat.le_of_ble_eq_true rfl) dX9_findEdge_190 (Nat.le_of_ble_eq_true rfl) (Nat.le_of_ble_eq_true rfl) rfl (fun H locs hP hS => ?_)
      obtain ⟨h7, h⟩ := chk_at h
      refine szWM_HiddenEdgesModel_quantity hc hP hS h7 dX9_findEdge_193 (fun H locs hP hS => ?_)
      obtain ⟨S8, eS8⟩ : ∃ z, z = ua S4 13 ((((50 : Int) * v4) + v5)).toNat x6 := ⟨_, rfl⟩
      replace h := olet_at eS8 h
      rw [← eS8] at hP
      obtain ⟨x9, ex9⟩ : ∃ y : Int, y = v5 + (1 : Int) := ⟨_, rfl⟩
      replace h := olet_at ex9 h
      refine lv_iinc (v := Int32.ofInt x9) (lv' := [(5, .int (Int32.ofInt x9)), (0, .ref (a 0)), (4, .int (Int32.ofInt v4))]) hx hb dX9_findEdge_194 hl (k := 2) rfl (by rw [ex9, Int32.ofInt_add]) (by decide) rfl (fun ls hl => ?_)
      refine lv_goto (tgt := 159) hx hb dX9_findEdge_197 (by decide) ?_
      exact ih S8 v4 x9 h H locs ls hP hS (lv_sub hl [1, 2, 0] rfl)
set_option maxHeartbeats 4000000 in
set_option maxRecDepth 100000 in
theorem t_X9_findEdge_p102 {z : SZ} (hc : Cx p R s m args c D (tysWM g) A (WM a g) cX9_findEdge 6 RX9 6 159) (hr : Rtv p l e R s m args below meth c Q D A (WM a g) cX9_findEdge (em z)) : ∀ (fu : Nat) (S : SZ) (v4 : Int) (v5 : Int), f_X9_findEdge_p102 fu S v4 v5 = some z → Go p l e R s m args below meth c Q D A (WM a g) 6 (em S) 102 [(0, .ref (a 0)), (4, .int (Int32.ofInt v4)), (5, .int (Int32.ofInt v5))] [] := by
  obtain ⟨⟨hx, hb, hml, hown, hts⟩, -, -, -, hnf, hno⟩ := id hc
  intro fu
  induction fu with
  | zero =>
    intro S v4 v5 h
    rw [f_X9_findEdge_p102] at h
    cases h
  | succ fu ih =>
    intro S v4 v5 h H locs ls hP hS hl
    rw [f_X9_findEdge_p102] at h
    refine lv_iload hx hb dX9_findEdge_102 (lv_at hl 2 rfl) ?_
    refine lv_aload_n hx hb dX9_findEdge_104 rfl (lv_at hl 0 rfl) ?_
    refine gzWM_HiddenEdgesModel_faces hc hP q_207 dX9_findEdge_105 ?_
    obtain ⟨h1, h⟩ := chk_at h
    obtain ⟨h2, h⟩ := chk_at h
    refine z_icmp_ge (tgt := 156) hx hb h1 h2 dX9_findEdge_108 (by decide) (fun hq => ?_) (fun hq => ?_)
    · replace h := if_yes hq h
      refine lv_iconst (v := Int32.ofInt (0 : Int)) hx hb dX9_findEdge_156 (by decide) ?_
      refine lv_istore (lv' := [(5, .int (Int32.ofInt (0 : Int))), (0, .ref (a 0)), (4, .int (Int32.ofInt v4))]) hx hb dX9_findEdge_157 hl (by decide) rfl (fun ls hl => ?_)
      exact t_X9_findEdge_p159 hc hr FU S v4 (0 : Int) h H locs ls hP hS (lv_sub hl [1, 2, 0] rfl)
    · replace h := if_no hq h
      refine lv_aload_n hx hb dX9_findEdge_111 rfl (lv_at hl 0 rfl) ?_
      refine lv_iload hx hb dX9_findEdge_112 (lv_at hl 1 rfl) ?_
      refine lv_iload hx hb dX9_findEdge_114 (lv_at hl 2 rfl) ?_
      obtain ⟨S3, x5, hk4, h⟩ := ob2_at h
      refine cl_Vi (As := [.int (Int32.ofInt v4), .int (Int32.ofInt v5)]) (rest := []) hc k_X9_findStretch q_582 (c_X9_findStretch hk4) hP hS (WM_0 a g (em S)) rfl rfl rfl hl (Nat.le_of_ble_eq_true rfl) dX9_findEdge_116 (Nat.le_of_ble_eq_true rfl) (Nat.le_of_ble_eq_true rfl) rfl (fun H locs hP hS => ?_)
      obtain ⟨h6, h⟩ := chk_at h
      refine z_if_eq (tgt := 150) hx hb h6 dX9_findEdge_119 (by decide) (fun hq => ?_) (fun hq => ?_)
      · replace h := if_yes hq h
        obtain ⟨x7, ex7⟩ : ∃ y : Int, y = v5 + (1 : Int) := ⟨_, rfl⟩
        replace h := olet_at ex7 h
        refine lv_iinc (v := Int32.ofInt x7) (lv' := [(5, .int (Int32.ofInt x7)), (0, .ref (a 0)), (4, .int (Int32.ofInt v4))]) hx hb dX9_findEdge_150 hl (k := 2) rfl (by rw [ex7, Int32.ofInt_add]) (by decide) rfl (fun ls hl => ?_)
        refine lv_goto (tgt := 102) hx hb dX9_findEdge_153 (by decide) ?_
        exact ih S3 v4 x7 h H locs ls hP hS (lv_sub hl [1, 2, 0] rfl)
      · replace h := if_no hq h
        refine lv_aload_n hx hb dX9_findEdge_122 rfl (lv_at hl 0 rfl) ?_
        refine lv_iload hx hb dX9_findEdge_123 (lv_at hl 1 rfl) ?_
        refine lv_aload_n hx hb dX9_findEdge_125 rfl (lv_at hl 0 rfl) ?_
        refine gzWM_HiddenEdgesModel_beginUp hc hP q_548 dX9_findEdge_126 ?_
        refine lv_aload_n hx hb dX9_findEdge_129 rfl (lv_at hl 0 rfl) ?_
        refine gzWM_HiddenEdgesModel_beginDown hc hP q_549 dX9_findEdge_130 ?_
        obtain ⟨S8, hk9, h⟩ := ob1_at h
        refine cl_Vv (As := [.int (Int32.ofInt v4), .long (Int64.ofInt (zl S3 0)), .long (Int64.ofInt (zl S3 1))]) (rest := []) hc k_X9_cuts q_575 (c_X9_cuts hk9) hP hS (WM_0 a g (em S3)) rfl rfl rfl hl (Nat.le_of_ble_eq_true rfl) dX9_findEdge_133 (Nat.le_of_ble_eq_true rfl) (Nat.le_of_ble_eq_true rfl) rfl (fun H locs hP hS => ?_)
        refine lv_aload_n hx hb dX9_findEdge_136 rfl (lv_at hl 0 rfl) ?_
        refine lv_iload hx hb dX9_findEdge_137 (lv_at hl 1 rfl) ?_
        refine lv_aload_n hx hb dX9_findEdge_139 rfl (lv_at hl 0 rfl) ?_
        refine gzWM_HiddenEdgesModel_endUp hc hP q_550 dX9_findEdge_140 ?_
        refine lv_aload_n hx hb dX9_findEdge_143 rfl (lv_at hl 0 rfl) ?_
        refine gzWM_HiddenEdgesModel_endDown hc hP q_551 dX9_findEdge_144 ?_
        obtain ⟨S10, hk11, h⟩ := ob1_at h
        refine cl_Vv (As := [.int (Int32.ofInt v4), .long (Int64.ofInt (zl S8 2)), .long (Int64.ofInt (zl S8 3))]) (rest := []) hc k_X9_cuts q_575 (c_X9_cuts hk11) hP hS (WM_0 a g (em S8)) rfl rfl rfl hl (Nat.le_of_ble_eq_true rfl) dX9_findEdge_147 (Nat.le_of_ble_eq_true rfl) (Nat.le_of_ble_eq_true rfl) rfl (fun H locs hP hS => ?_)
        obtain ⟨x12, ex12⟩ : ∃ y : Int, y = v5 + (1 : Int) := ⟨_, rfl⟩
        replace h := olet_at ex12 h
        refine lv_iinc (v := Int32.ofInt x12) (lv' := [(5, .int (Int32.ofInt x12)), (0, .ref (a 0)), (4, .int (Int32.ofInt v4))]) hx hb dX9_findEdge_150 hl (k := 2) rfl (by rw [ex12, Int32.ofInt_add]) (by decide) rfl (fun ls hl => ?_)
        refine lv_goto (tgt := 102) hx hb dX9_findEdge_153 (by decide) ?_
        exact ih S10 v4 x12 h H locs ls hP hS (lv_sub hl [1, 2, 0] rfl)
set_option maxHeartbeats 4000000 in
set_option maxRecDepth 100000 in
theorem t_X9_findEdge_p21 {z : SZ} (hc : Cx p R s m args c D (tysWM g) A (WM a g) cX9_findEdge 6 RX9 6 159) (hr : Rtv p l e R s m args below meth c Q D A (WM a g) cX9_findEdge (em z)) : ∀ (S : SZ) (v1 : Int) (v2 : Int) (v3 : Int), f_X9_findEdge_p21 S v1 v2 v3 = some z → Go p l e R s m args below meth c Q D A (WM a g) 6 (em S) 21 [(0, .ref (a 0)), (1, .int (Int32.ofInt v1)), (2, .int (Int32.ofInt v2)), (3, .int (Int32.ofInt v3))] [] := by
  obtain ⟨⟨hx, hb, hml, hown, hts⟩, -, -, -, hnf, hno⟩ := id hc
  intro S v1 v2 v3 h H locs ls hP hS hl
  rw [f_X9_findEdge_p21] at h
  refine lv_aload_n hx hb dX9_findEdge_21 rfl (lv_at hl 0 rfl) ?_
  refine gzWM_HiddenEdgesModel_edges hc hP q_539 dX9_findEdge_22 ?_
  refine z_topi (fun x1 ex1 => ?_)
  replace h := olet_at ex1 h
  refine lv_istore (lv' := [(4, .int (Int32.ofInt x1)), (0, .ref (a 0)), (1, .int (Int32.ofInt v1)), (2, .int (Int32.ofInt v2)), (3, .int (Int32.ofInt v3))]) hx hb dX9_findEdge_25 hl (by decide) rfl (fun ls hl => ?_)
  refine lv_aload_n hx hb dX9_findEdge_27 rfl (lv_at hl 1 rfl) ?_
  refine gfWM_HiddenEdgesModel_edgeOne hc hP q_108 dX9_findEdge_28 ?_
  refine lv_iload hx hb dX9_findEdge_31 (lv_at hl 0 rfl) ?_
  refine lv_iload_n hx hb dX9_findEdge_33 rfl (lv_at hl 2 rfl) ?_
  obtain ⟨h2, h⟩ := chk_at h
  refine szWM_HiddenEdgesModel_edgeOne hc hP hS h2 dX9_findEdge_34 (fun H locs hP hS => ?_)
  obtain ⟨S3, eS3⟩ : ∃ z, z = ua S 8 (x1).toNat v1 := ⟨_, rfl⟩
  replace h := olet_at eS3 h
  rw [← eS3] at hP
  refine lv_aload_n hx hb dX9_findEdge_35 rfl (lv_at hl 1 rfl) ?_
  refine gfWM_HiddenEdgesModel_edgeOther hc hP q_109 dX9_findEdge_36 ?_
  refine lv_iload hx hb dX9_findEdge_39 (lv_at hl 0 rfl) ?_
  refine lv_iload_n hx hb dX9_findEdge_41 rfl (lv_at hl 3 rfl) ?_
  refine szWM_HiddenEdgesModel_edgeOther hc hP hS h2 dX9_findEdge_42 (fun H locs hP hS => ?_)
  obtain ⟨S4, eS4⟩ : ∃ z, z = ua S3 9 (x1).toNat v2 := ⟨_, rfl⟩
  replace h := olet_at eS4 h
  rw [← eS4] at hP
  refine lv_aload_n hx hb dX9_findEdge_43 rfl (lv_at hl 1 rfl) ?_
  refine gfWM_HiddenEdgesModel_facesAt hc hP q_110 dX9_findEdge_44 ?_
  refine lv_iload hx hb dX9_findEdge_47 (lv_at hl 0 rfl) ?_
  refine lv_iload_n hx hb dX9_findEdge_49 rfl (lv_at hl 4 rfl) ?_
  refine szWM_HiddenEdgesModel_facesAt hc hP hS h2 dX9_findEdge_50 (fun H locs hP hS => ?_)
  obtain ⟨S5, eS5⟩ : ∃ z, z = ua S4 10 (x1).toNat v3 := ⟨_, rfl⟩
  replace h := olet_at eS5 h
  rw [← eS5] at hP
  refine lv_aload_n hx hb dX9_findEdge_51 rfl (lv_at hl 1 rfl) ?_
  refine gfWM_HiddenEdgesModel_sortOf hc hP q_111 dX9_findEdge_52 ?_
  refine lv_iload hx hb dX9_findEdge_55 (lv_at hl 0 rfl) ?_
  refine lv_aload_n hx hb dX9_findEdge_57 rfl (lv_at hl 1 rfl) ?_
  refine lv_iload_n hx hb dX9_findEdge_58 rfl (lv_at hl 2 rfl) ?_
  refine lv_iload_n hx hb dX9_findEdge_59 rfl (lv_at hl 3 rfl) ?_
  refine lv_iload_n hx hb dX9_findEdge_60 rfl (lv_at hl 4 rfl) ?_
  obtain ⟨S6, x8, hk7, h⟩ := ob2_at h
  refine cl_Vi (As := [.int (Int32.ofInt v1), .int (Int32.ofInt v2), .int (Int32.ofInt v3)]) (rest := [.int (Int32.ofInt x1), .ref (a 12)]) hc k_X9_sortBy q_556 (c_X9_sortBy hk7) hP hS (WM_0 a g (em S5)) rfl rfl rfl hl (Nat.le_of_ble_eq_true rfl) dX9_findEdge_61 (Nat.le_of_ble_eq_true rfl) (Nat.le_of_ble_eq_true rfl) rfl (fun H locs hP hS => ?_)
  refine szWM_HiddenEdgesModel_sortOf hc hP hS h2 dX9_findEdge_64 (fun H locs hP hS => ?_)
  obtain ⟨S9, eS9⟩ : ∃ z, z = ua S6 11 (x1).toNat x8 := ⟨_, rfl⟩
  replace h := olet_at eS9 h
  rw [← eS9] at hP
  refine lv_aload_n hx hb dX9_findEdge_65 rfl (lv_at hl 1 rfl) ?_
  refine lv_dup hx hb dX9_findEdge_66 rfl ?_
  refine gzWM_HiddenEdgesModel_edges hc hP q_539 dX9_findEdge_67 ?_
  refine lv_iconst (v := Int32.ofInt (1 : Int)) hx hb dX9_findEdge_70 (by decide) ?_
  refine z_iadd hx hb dX9_findEdge_71 ?_
  refine pzWM_HiddenEdgesModel_edges hc hP hS q_539 dX9_findEdge_72 (fun H locs hP hS => ?_)
  obtain ⟨S10, eS10⟩ : ∃ z, z = ui S9 7 ((zi S9 7) + (1 : Int)) := ⟨_, rfl⟩
  replace h := olet_at eS10 h
  rw [← eS10] at hP
  refine lv_aload_n hx hb dX9_findEdge_75 rfl (lv_at hl 1 rfl) ?_
  refine gfWM_HiddenEdgesModel_manyCuts hc hP q_112 dX9_findEdge_76 ?_
  refine lv_iload hx hb dX9_findEdge_79 (lv_at hl 0 rfl) ?_
  refine lv_iconst (v := Int32.ofInt (0 : Int)) hx hb dX9_findEdge_81 (by decide) ?_
  refine szWM_HiddenEdgesModel_manyCuts hc hP hS h2 dX9_findEdge_82 (fun H locs hP hS => ?_)
  obtain ⟨S11, eS11⟩ : ∃ z, z = ua S10 12 (x1).toNat (0 : Int) := ⟨_, rfl⟩
  replace h := olet_at eS11 h
  rw [← eS11] at hP
  refine lv_aload_n hx hb dX9_findEdge_83 rfl (lv_at hl 1 rfl) ?_
  refine lv_iload hx hb dX9_findEdge_84 (lv_at hl 0 rfl) ?_
  refine lv_lconst (v := Int64.ofInt (0 : Int)) hx hb dX9_findEdge_86 (by decide) ?_
  refine lv_lconst (v := Int64.ofInt (1 : Int)) hx hb dX9_findEdge_87 (by decide) ?_
  obtain ⟨S12, hk13, h⟩ := ob1_at h
  refine cl_Vv (As := [.int (Int32.ofInt x1), .long (Int64.ofInt (0 : Int)), .long (Int64.ofInt (1 : Int))]) (rest := []) hc k_X9_cuts q_575 (c_X9_cuts hk13) hP hS (WM_0 a g (em S11)) rfl rfl rfl hl (Nat.le_of_ble_eq_true rfl) dX9_findEdge_88 (Nat.le_of_ble_eq_true rfl) (Nat.le_of_ble_eq_true rfl) rfl (fun H locs hP hS => ?_)
  refine lv_aload_n hx hb dX9_findEdge_91 rfl (lv_at hl 1 rfl) ?_
  refine lv_iload hx hb dX9_findEdge_92 (lv_at hl 0 rfl) ?_
  refine lv_lconst (v := Int64.ofInt (1 : Int)) hx hb dX9_findEdge_94 (by decide) ?_
  refine lv_lconst (v := Int64.ofInt (1 : Int)) hx hb dX9_findEdge_95 (by decide) ?_
  obtain ⟨S14, hk15, h⟩ := ob1_at h
  refine cl_Vv (As := [.int (Int32.ofInt x1), .long (Int64.ofInt (1 : Int)), .long (Int64.ofInt (1 : Int))]) (rest := []) hc k_X9_cuts q_575 (c_X9_cuts hk15) hP hS (WM_0 a g (em S12)) rfl rfl rfl hl (Nat.le_of_ble_eq_true rfl) dX9_findEdge_96 (Nat.le_of_ble_eq_true rfl) (Nat.le_of_ble_eq_true rfl) rfl (fun H locs hP hS => ?_)
  refine lv_iconst (v := Int32.ofInt (0 : Int)) hx hb dX9_findEdge_99 (by decide) ?_
  refine lv_istore (lv' := [(5, .int (Int32.ofInt (0 : Int))), (4, .int (Int32.ofInt x1)), (0, .ref (a 0)), (1, .int (Int32.ofInt v1)), (2, .int (Int32.ofInt v2)), (3, .int (Int32.ofInt v3))]) hx hb dX9_findEdge_100 hl (by decide) rfl (fun ls hl => ?_)
  exact t_X9_findEdge_p102 hc hr FU S14 x1 (0 : Int) h H locs ls hP hS (lv_sub hl [2, 1, 0] rfl)
set_option maxHeartbeats 4000000 in
set_option maxRecDepth 100000 in
theorem t_X9_findEdge {z : SZ} (hc : Cx p R s m args c D (tysWM g) A (WM a g) cX9_findEdge 6 RX9 6 159) (hr : Rtv p l e R s m args below meth c Q D A (WM a g) cX9_findEdge (em z)) : ∀ (S : SZ) (v1 : Int) (v2 : Int), f_X9_findEdge S v1 v2 = some z → Go p l e R s m args below meth c Q D A (WM a g) 6 (em S) 0 [(0, .ref (a 0)), (1, .int (Int32.ofInt v1)), (2, .int (Int32.ofInt v2))] [] := by
  obtain ⟨⟨hx, hb, hml, hown, hts⟩, -, -, -, hnf, hno⟩ := id hc
  intro S v1 v2 h H locs ls hP hS hl
  rw [f_X9_findEdge] at h
  replace hl : lv_has ls 6 [(0, .ref (a 0)), (1, .int (Int32.ofInt v1)), (2, .int (Int32.ofInt v2))] := hl
  refine lv_aload_n hx hb dX9_findEdge_0 rfl (lv_at hl 0 rfl) ?_
  refine lv_iload_n hx hb dX9_findEdge_1 rfl (lv_at hl 1 rfl) ?_
  refine lv_iload_n hx hb dX9_findEdge_2 rfl (lv_at hl 2 rfl) ?_
  obtain ⟨S1, x3, hk2, h⟩ := ob2_at h
  refine cl_Vi (As := [.int (Int32.ofInt v1), .int (Int32.ofInt v2)]) (rest := []) hc k_X9_commonFaces q_552 (c_X9_commonFaces hk2) hP hS (WM_0 a g (em S)) rfl rfl rfl hl (Nat.le_of_ble_eq_true rfl) dX9_findEdge_3 (Nat.le_of_ble_eq_true rfl) (Nat.le_of_ble_eq_true rfl) rfl (fun H locs hP hS => ?_)
  refine lv_istore_n (lv' := [(3, .int (Int32.ofInt x3)), (0, .ref (a 0)), (1, .int (Int32.ofInt v1)), (2, .int (Int32.ofInt v2))]) hx hb dX9_findEdge_6 rfl hl (by decide) rfl (fun ls hl => ?_)
  refine lv_iload_n hx hb dX9_findEdge_7 rfl (lv_at hl 0 rfl) ?_
  obtain ⟨h4, h⟩ := chk_at h
  refine z_if_ne (tgt := 21) hx hb h4 dX9_findEdge_8 (by decide) (fun hq => ?_) (fun hq => ?_)
  · replace h := if_no hq h
    exact t_X9_findEdge_p21 hc hr S1 v1 v2 x3 h H locs ls hP hS (lv_sub hl [1, 2, 3, 0] rfl)
  · replace h := if_yes hq h
    refine lv_aload_n hx hb dX9_findEdge_11 rfl (lv_at hl 1 rfl) ?_
    refine lv_iload_n hx hb dX9_findEdge_12 rfl (lv_at hl 2 rfl) ?_
    refine lv_iload_n hx hb dX9_findEdge_13 rfl (lv_at hl 3 rfl) ?_
    obtain ⟨S5, x7, hk6, h⟩ := ob2_at h
    refine cl_Vi (As := [.int (Int32.ofInt v1), .int (Int32.ofInt v2)]) (rest := []) hc k_X9_isWire q_247 (c_X9_isWire hk6) hP hS (WM_0 a g (em S1)) rfl rfl rfl hl (Nat.le_of_ble_eq_true rfl) dX9_findEdge_14 (Nat.le_of_ble_eq_true rfl) (Nat.le_of_ble_eq_true rfl) rfl (fun H locs hP hS => ?_)
    obtain ⟨h8, h⟩ := chk_at h
    refine z_if_ne (tgt := 21) hx hb h8 dX9_findEdge_17 (by decide) (fun hq => ?_) (fun hq => ?_)
    · replace h := if_no hq h
      exact t_X9_findEdge_p21 hc hr S5 v1 v2 x3 h H locs ls hP hS (lv_sub hl [1, 2, 3, 0] rfl)
    · replace h := if_yes hq h
      obtain rfl := Option.some.inj h
      exact hr _ _ _ _ dX9_findEdge_20 hP hS
abbrev rm_X9_findEdge : Room := { frames := 6, cells := 0, slots := 0, locals := 159 }
theorem c_X9_findEdge {l : Launch} {D : va_G} {a : Nat → Nat} {g : Nat → ClassId} {S : SZ} {v1 : Int} {v2 : Int} {z : SZ} (h : f_X9_findEdge S v1 v2 = some z) : MetV l D (tysWM g) (WM a g) E0 yX9_findEdge cX9_findEdge 6 none rm_X9_findEdge [.ref (a 0), .int (Int32.ofInt v1), .int (Int32.ofInt v2)] (em S) (em z) := mk_v (WM_same a g) (by decide) (em z) (Nat.le_of_ble_eq_true rfl) (fun p e s m args below meth c A Q hc hE hr => t_X9_findEdge (z := z) hc hr S v1 v2 h)
theorem k_X9_findEdge : CalV RX9 yX9_findEdge cX9_findEdge 6 none rm_X9_findEdge 2 := ⟨q_545, q_546, q_5, q_547, by decide +kernel, rfl, rfl⟩
set_option maxHeartbeats 4000000 in
set_option maxRecDepth 100000 in
theorem t_X9_piecesOf {z : SZ × Int} (hc : Cx p R s m args c D (tysWM g) A (WM a g) cX9_piecesOf 2 RX9 0 0) (hr : Rti p l e R s m args below meth c Q D A (WM a g) cX9_piecesOf (em z.1, Int32.ofInt z.2)) : ∀ (S : SZ) (v1 : Int), f_X9_piecesOf S v1 = some z → Go p l e R s m args below meth c Q D A (WM a g) 2 (em S) 0 [(0, .ref (a 0)), (1, .int (Int32.ofInt v1))] [] := by
  obtain ⟨⟨hx, hb, hml, hown, hts⟩, -, -, -, hnf, hno⟩ := id hc
  intro S v1 h H locs ls hP hS hl
  rw [f_X9_piecesOf] at h
  replace hl : lv_has ls 2 [(0, .ref (a 0)), (1, .int (Int32.ofInt v1))] := hl
  refine lv_aload_n hx hb dX9_piecesOf_0 rfl (lv_at hl 0 rfl) ?_
  refine gfWM_HiddenEdgesModel_manyCuts hc hP q_112 dX9_piecesOf_1 ?_
  refine lv_iload_n hx hb dX9_piecesOf_4 rfl (lv_at hl 1 rfl) ?_
  obtain ⟨h1, h⟩ := chk_at h
  refine azWM_HiddenEdgesModel_manyCuts hc hP h1 dX9_piecesOf_5 ?_
  refine lv_iconst (v := Int32.ofInt (1 : Int)) hx hb dX9_piecesOf_6 (by decide) ?_
  refine z_isub hx hb dX9_piecesOf_7 ?_
  obtain rfl := Option.some.inj h
  exact hr _ _ _ _ dX9_piecesOf_8 hP hS
abbrev rm_X9_piecesOf : Room := { frames := 0, cells := 0, slots := 0, locals := 0 }
theorem c_X9_piecesOf {l : Launch} {D : va_G} {a : Nat → Nat} {g : Nat → ClassId} {S : SZ} {v1 : Int} {Z1 : SZ} {r1 : Int} (h : f_X9_piecesOf S v1 = some (Z1, r1)) : MetI l D (tysWM g) (WM a g) E0 yX9_piecesOf cX9_piecesOf 2 (some .int) rm_X9_piecesOf [.ref (a 0), .int (Int32.ofInt v1)] (em S) (em Z1, Int32.ofInt r1) := mk_i (WM_same a g) (by decide) (em Z1, Int32.ofInt r1) (Nat.le_of_ble_eq_true rfl) (fun p e s m args below meth c A Q hc hE hr => t_X9_piecesOf (z := (Z1, r1)) hc hr S v1 h)
theorem k_X9_piecesOf : CalV RX9 yX9_piecesOf cX9_piecesOf 2 (some .int) rm_X9_piecesOf 1 := ⟨q_601, q_602, q_5, q_603, by decide +kernel, rfl, rfl⟩
set_option maxHeartbeats 4000000 in
set_option maxRecDepth 100000 in
theorem t_X9_isSeen {z : SZ × Int} (hc : Cx p R s m args c D (tysWM g) A (WM a g) cX9_isSeen 3 RX9 0 0) (hr : Rtz p l e R s m args below meth c Q D A (WM a g) cX9_isSeen (em z.1, Int32.ofInt z.2)) : ∀ (S : SZ) (v1 : Int) (v2 : Int), f_X9_isSeen S v1 v2 = some z → Go p l e R s m args below meth c Q D A (WM a g) 3 (em S) 0 [(0, .ref (a 0)), (1, .int (Int32.ofInt v1)), (2, .int (Int32.ofInt v2))] [] := by
  obtain ⟨⟨hx, hb, hml, hown, hts⟩, -, -, -, hnf, hno⟩ := id hc
  intro S v1 v2 h H locs ls hP hS hl
  rw [f_X9_isSeen] at h
  replace hl : lv_has ls 3 [(0, .ref (a 0)), (1, .int (Int32.ofInt v1)), (2, .int (Int32.ofInt v2))] := hl
  refine lv_aload_n hx hb dX9_isSeen_0 rfl (lv_at hl 0 rfl) ?_
  refine gfWM_HiddenEdgesModel_quantity hc hP q_115 dX9_isSeen_1 ?_
  refine lv_bipush (v := Int32.ofInt (50 : Int)) hx hb dX9_isSeen_4 (by decide) ?_
  refine lv_iload_n hx hb dX9_isSeen_6 rfl (lv_at hl 1 rfl) ?_
  refine z_imul hx hb dX9_isSeen_7 ?_
  refine lv_iload_n hx hb dX9_isSeen_8 rfl (lv_at hl 2 rfl) ?_
  refine z_iadd hx hb dX9_isSeen_9 ?_
  obtain ⟨h1, h⟩ := chk_at h
  refine azWM_HiddenEdgesModel_quantity hc hP h1 dX9_isSeen_10 ?_
  obtain ⟨h2, h⟩ := chk_at h
  refine z_if_ne (tgt := 28) hx hb h2 dX9_isSeen_11 (by decide) (fun hq => ?_) (fun hq => ?_)
  · replace h := if_no hq h
    refine lv_iconst (v := Int32.ofInt (0 : Int)) hx hb dX9_isSeen_28 (by decide) ?_
    obtain rfl := Option.some.inj h
    exact hr (bit_of (Or.inl rfl)) _ _ _ _ dX9_isSeen_29 hP hS
  · replace h := if_yes hq h
    refine lv_aload_n hx hb dX9_isSeen_14 rfl (lv_at hl 0 rfl) ?_
    refine gfWM_HiddenEdgesModel_sortOf hc hP q_111 dX9_isSeen_15 ?_
    refine lv_iload_n hx hb dX9_isSeen_18 rfl (lv_at hl 1 rfl) ?_
    obtain ⟨h3, h⟩ := chk_at h
    refine azWM_HiddenEdgesModel_sortOf hc hP h3 dX9_isSeen_19 ?_
    refine lv_iconst (v := Int32.ofInt (2 : Int)) hx hb dX9_isSeen_20 (by decide) ?_
    obtain ⟨h4, h⟩ := chk_at h
    refine z_icmp_eq (tgt := 28) hx hb h4 (by decide) dX9_isSeen_21 (by decide) (fun hq => ?_) (fun hq => ?_)
    · replace h := if_yes hq h
      refine lv_iconst (v := Int32.ofInt (0 : Int)) hx hb dX9_isSeen_28 (by decide) ?_
      obtain rfl := Option.some.inj h
      exact hr (bit_of (Or.inl rfl)) _ _ _ _ dX9_isSeen_29 hP hS
    · replace h := if_no hq h
      refine lv_iconst (v := Int32.ofInt (1 : Int)) hx hb dX9_isSeen_24 (by decide) ?_
      refine lv_goto (tgt := 29) hx hb dX9_isSeen_25 (by decide) ?_
      obtain rfl := Option.some.inj h
      exact hr (bit_of (Or.inr rfl)) _ _ _ _ dX9_isSeen_29 hP hS
abbrev rm_X9_isSeen : Room := { frames := 0, cells := 0, slots := 0, locals := 0 }
theorem c_X9_isSeen {l : Launch} {D : va_G} {a : Nat → Nat} {g : Nat → ClassId} {S : SZ} {v1 : Int} {v2 : Int} {Z1 : SZ} {r1 : Int} (h : f_X9_isSeen S v1 v2 = some (Z1, r1)) : MetI l D (tysWM g) (WM a g) E0 yX9_isSeen cX9_isSeen 3 (some .boolean) rm_X9_isSeen [.ref (a 0), .int (Int32.ofInt v1), .int (Int32.ofInt v2)] (em S) (em Z1, Int32.ofInt r1) := mk_z (WM_same a g) (by decide) (em Z1, Int32.ofInt r1) (Nat.le_of_ble_eq_true rfl) (fun p e s m args below meth c A Q hc hE hr => t_X9_isSeen (z := (Z1, r1)) hc hr S v1 v2 h)
theorem k_X9_isSeen : CalV RX9 yX9_isSeen cX9_isSeen 3 (some .boolean) rm_X9_isSeen 2 := ⟨q_609, q_610, q_5, q_611, by decide +kernel, rfl, rfl⟩
set_option maxHeartbeats 4000000 in
set_option maxRecDepth 100000 in
theorem t_X9_isFree {z : SZ × Int} (hc : Cx p R s m args c D (tysWM g) A (WM a g) cX9_isFree 3 RX9 1 22) (hr : Rtz p l e R s m args below meth c Q D A (WM a g) cX9_isFree (em z.1, Int32.ofInt z.2)) : ∀ (S : SZ) (v1 : Int) (v2 : Int), f_X9_isFree S v1 v2 = some z → Go p l e R s m args below meth c Q D A (WM a g) 3 (em S) 0 [(0, .ref (a 0)), (1, .int (Int32.ofInt v1)), (2, .int (Int32.ofInt v2))] [] := by
  obtain ⟨⟨hx, hb, hml, hown, hts⟩, -, -, -, hnf, hno⟩ := id hc
  intro S v1 v2 h H locs ls hP hS hl
  rw [f_X9_isFree] at h
  replace hl : lv_has ls 3 [(0, .ref (a 0)), (1, .int (Int32.ofInt v1)), (2, .int (Int32.ofInt v2))] := hl
  refine lv_aload_n hx hb dX9_isFree_0 rfl (lv_at hl 0 rfl) ?_
  refine lv_iload_n hx hb dX9_isFree_1 rfl (lv_at hl 1 rfl) ?_
  refine lv_iload_n hx hb dX9_isFree_2 rfl (lv_at hl 2 rfl) ?_
  obtain ⟨S1, x3, hk2, h⟩ := ob2_at h
  refine cl_Vi (As := [.int (Int32.ofInt v1), .int (Int32.ofInt v2)]) (rest := []) hc k_X9_isSeen q_608 (c_X9_isSeen hk2) hP hS (WM_0 a g (em S)) rfl rfl rfl hl (Nat.le_of_ble_eq_true rfl) dX9_isFree_3 (Nat.le_of_ble_eq_true rfl) (Nat.le_of_ble_eq_true rfl) rfl (fun H locs hP hS => ?_)
  obtain ⟨h4, h⟩ := chk_at h
  refine z_if_eq (tgt := 27) hx hb h4 dX9_isFree_6 (by decide) (fun hq => ?_) (fun hq => ?_)
  · replace h := if_yes hq h
    refine lv_iconst (v := Int32.ofInt (0 : Int)) hx hb dX9_isFree_27 (by decide) ?_
    obtain rfl := Option.some.inj h
    exact hr (bit_of (Or.inl rfl)) _ _ _ _ dX9_isFree_28 hP hS
  · replace h := if_no hq h
    refine lv_aload_n hx hb dX9_isFree_9 rfl (lv_at hl 0 rfl) ?_
    refine gfWM_HiddenEdgesModel_isLaid hc hP q_121 dX9_isFree_10 ?_
    refine lv_bipush (v := Int32.ofInt (50 : Int)) hx hb dX9_isFree_13 (by decide) ?_
    refine lv_iload_n hx hb dX9_isFree_15 rfl (lv_at hl 1 rfl) ?_
    refine z_imul hx hb dX9_isFree_16 ?_
    refine lv_iload_n hx hb dX9_isFree_17 rfl (lv_at hl 2 rfl) ?_
    refine z_iadd hx hb dX9_isFree_18 ?_
    obtain ⟨h5, h⟩ := chk_at h
    refine azWM_HiddenEdgesModel_isLaid hc hP h5 dX9_isFree_19 ?_
    obtain ⟨h6, h⟩ := chk_at h
    refine z_if_ne (tgt := 27) hx hb h6 dX9_isFree_20 (by decide) (fun hq => ?_) (fun hq => ?_)
    · replace h := if_no hq h
      refine lv_iconst (v := Int32.ofInt (0 : Int)) hx hb dX9_isFree_27 (by decide) ?_
      obtain rfl := Option.some.inj h
      exact hr (bit_of (Or.inl rfl)) _ _ _ _ dX9_isFree_28 hP hS
    · replace h := if_yes hq h
      refine lv_iconst (v := Int32.ofInt (1 : Int)) hx hb dX9_isFree_23 (by decide) ?_
      refine lv_goto (tgt := 28) hx hb dX9_isFree_24 (by decide) ?_
      obtain rfl := Option.some.inj h
      exact hr (bit_of (Or.inr rfl)) _ _ _ _ dX9_isFree_28 hP hS
abbrev rm_X9_isFree : Room := { frames := 1, cells := 0, slots := 0, locals := 22 }
theorem c_X9_isFree {l : Launch} {D : va_G} {a : Nat → Nat} {g : Nat → ClassId} {S : SZ} {v1 : Int} {v2 : Int} {Z1 : SZ} {r1 : Int} (h : f_X9_isFree S v1 v2 = some (Z1, r1)) : MetI l D (tysWM g) (WM a g) E0 yX9_isFree cX9_isFree 3 (some .boolean) rm_X9_isFree [.ref (a 0), .int (Int32.ofInt v1), .int (Int32.ofInt v2)] (em S) (em Z1, Int32.ofInt r1) := mk_z (WM_same a g) (by decide) (em Z1, Int32.ofInt r1) (Nat.le_of_ble_eq_true rfl) (fun p e s m args below meth c A Q hc hE hr => t_X9_isFree (z := (Z1, r1)) hc hr S v1 v2 h)
theorem k_X9_isFree : CalV RX9 yX9_isFree cX9_isFree 3 (some .boolean) rm_X9_isFree 2 := ⟨q_605, q_606, q_5, q_607, by decide +kernel, rfl, rfl⟩
set_option maxHeartbeats 4000000 in
set_option maxRecDepth 100000 in
theorem t_X9_lays {z : SZ} (hc : Cx p R s m args c D (tysWM g) A (WM a g) cX9_lays 4 RX9 0 0) (hr : Rtv p l e R s m args below meth c Q D A (WM a g) cX9_lays (em z)) : ∀ (S : SZ) (v1 : Int) (v2 : Int) (v3 : Int), f_X9_lays S v1 v2 v3 = some z → Go p l e R s m args below meth c Q D A (WM a g) 4 (em S) 0 [(0, .ref (a 0)), (1, .int (Int32.ofInt v1)), (2, .int (Int32.ofInt v2)), (3, .int (Int32.ofInt v3))] [] := by
  obtain ⟨⟨hx, hb, hml, hown, hts⟩, -, -, -, hnf, hno⟩ := id hc
  intro S v1 v2 v3 h H locs ls hP hS hl
  rw [f_X9_lays] at h
  replace hl : lv_has ls 4 [(0, .ref (a 0)), (1, .int (Int32.ofInt v1)), (2, .int (Int32.ofInt v2)), (3, .int (Int32.ofInt v3))] := hl
  refine lv_aload_n hx hb dX9_lays_0 rfl (lv_at hl 0 rfl) ?_
  refine gfWM_HiddenEdgesModel_isLaid hc hP q_121 dX9_lays_1 ?_
  refine lv_bipush (v := Int32.ofInt (50 : Int)) hx hb dX9_lays_4 (by decide) ?_
  refine lv_iload_n hx hb dX9_lays_6 rfl (lv_at hl 1 rfl) ?_
  refine z_imul hx hb dX9_lays_7 ?_
  refine lv_iload_n hx hb dX9_lays_8 rfl (lv_at hl 2 rfl) ?_
  refine z_iadd hx hb dX9_lays_9 ?_
  refine lv_iconst (v := Int32.ofInt (1 : Int)) hx hb dX9_lays_10 (by decide) ?_
  obtain ⟨h1, h⟩ := chk_at h
  refine szWM_HiddenEdgesModel_isLaid hc hP hS h1 (Or.inr rfl) dX9_lays_11 (fun H locs hP hS => ?_)
  obtain ⟨S2, eS2⟩ : ∃ z, z = ua S 18 ((((50 : Int) * v1) + v2)).toNat (1 : Int) := ⟨_, rfl⟩
  replace h := olet_at eS2 h
  rw [← eS2] at hP
  refine lv_aload_n hx hb dX9_lays_12 rfl (lv_at hl 0 rfl) ?_
  refine gfWM_HiddenEdgesModel_laidEdge hc hP q_117 dX9_lays_13 ?_
  refine lv_aload_n hx hb dX9_lays_16 rfl (lv_at hl 0 rfl) ?_
  refine gzWM_HiddenEdgesModel_laid hc hP q_599 dX9_lays_17 ?_
  refine lv_iload_n hx hb dX9_lays_20 rfl (lv_at hl 1 rfl) ?_
  obtain ⟨h3, h⟩ := chk_at h
  refine szWM_HiddenEdgesModel_laidEdge hc hP hS h3 dX9_lays_21 (fun H locs hP hS => ?_)
  obtain ⟨S4, eS4⟩ : ∃ z, z = ua S2 15 ((zi S2 9)).toNat v1 := ⟨_, rfl⟩
  replace h := olet_at eS4 h
  rw [← eS4] at hP
  refine lv_aload_n hx hb dX9_lays_22 rfl (lv_at hl 0 rfl) ?_
  refine gfWM_HiddenEdgesModel_laidPiece hc hP q_118 dX9_lays_23 ?_
  refine lv_aload_n hx hb dX9_lays_26 rfl (lv_at hl 0 rfl) ?_
  refine gzWM_HiddenEdgesModel_laid hc hP q_599 dX9_lays_27 ?_
  refine lv_iload_n hx hb dX9_lays_30 rfl (lv_at hl 2 rfl) ?_
  obtain ⟨h5, h⟩ := chk_at h
  refine szWM_HiddenEdgesModel_laidPiece hc hP hS h5 dX9_lays_31 (fun H locs hP hS => ?_)
  obtain ⟨S6, eS6⟩ : ∃ z, z = ua S4 16 ((zi S4 9)).toNat v2 := ⟨_, rfl⟩
  replace h := olet_at eS6 h
  rw [← eS6] at hP
  refine lv_aload_n hx hb dX9_lays_32 rfl (lv_at hl 0 rfl) ?_
  refine gfWM_HiddenEdgesModel_laidOn hc hP q_120 dX9_lays_33 ?_
  refine lv_aload_n hx hb dX9_lays_36 rfl (lv_at hl 0 rfl) ?_
  refine gzWM_HiddenEdgesModel_laid hc hP q_599 dX9_lays_37 ?_
  refine lv_iload_n hx hb dX9_lays_40 rfl (lv_at hl 3 rfl) ?_
  obtain ⟨h7, h⟩ := chk_at h
  obtain ⟨h8, h⟩ := chk_at h
  refine szWM_HiddenEdgesModel_laidOn hc hP hS h7 h8 dX9_lays_41 (fun H locs hP hS => ?_)
  obtain ⟨S9, eS9⟩ : ∃ z, z = ua S6 17 ((zi S6 9)).toNat v3 := ⟨_, rfl⟩
  replace h := olet_at eS9 h
  rw [← eS9] at hP
  refine lv_aload_n hx hb dX9_lays_42 rfl (lv_at hl 0 rfl) ?_
  refine lv_dup hx hb dX9_lays_43 rfl ?_
  refine gzWM_HiddenEdgesModel_laid hc hP q_599 dX9_lays_44 ?_
  refine lv_iconst (v := Int32.ofInt (1 : Int)) hx hb dX9_lays_47 (by decide) ?_
  refine z_iadd hx hb dX9_lays_48 ?_
  refine pzWM_HiddenEdgesModel_laid hc hP hS q_599 dX9_lays_49 (fun H locs hP hS => ?_)
  obtain ⟨S10, eS10⟩ : ∃ z, z = ui S9 9 ((zi S9 9) + (1 : Int)) := ⟨_, rfl⟩
  replace h := olet_at eS10 h
  rw [← eS10] at hP
  obtain rfl := Option.some.inj h
  exact hr _ _ _ _ dX9_lays_52 hP hS
abbrev rm_X9_lays : Room := { frames := 0, cells := 0, slots := 0, locals := 0 }
theorem c_X9_lays {l : Launch} {D : va_G} {a : Nat → Nat} {g : Nat → ClassId} {S : SZ} {v1 : Int} {v2 : Int} {v3 : Int} {z : SZ} (h : f_X9_lays S v1 v2 v3 = some z) : MetV l D (tysWM g) (WM a g) E0 yX9_lays cX9_lays 4 none rm_X9_lays [.ref (a 0), .int (Int32.ofInt v1), .int (Int32.ofInt v2), .int (Int32.ofInt v3)] (em S) (em z) := mk_v (WM_same a g) (by decide) (em z) (Nat.le_of_ble_eq_true rfl) (fun p e s m args below meth c A Q hc hE hr => t_X9_lays (z := z) hc hr S v1 v2 v3 h)
theorem k_X9_lays : CalV RX9 yX9_lays cX9_lays 4 none rm_X9_lays 3 := ⟨q_613, q_614, q_5, q_615, by decide +kernel, rfl, rfl⟩
set_option maxHeartbeats 4000000 in
set_option maxRecDepth 100000 in
theorem t_X9_endOf {z : SZ × Int} (hc : Cx p R s m args c D (tysWM g) A (WM a g) cX9_endOf 4 RX9 1 21) (hr : Rti p l e R s m args below meth c Q D A (WM a g) cX9_endOf (em z.1, Int32.ofInt z.2)) : ∀ (S : SZ) (v1 : Int) (v2 : Int) (v3 : Int), f_X9_endOf S v1 v2 v3 = some z → Go p l e R s m args below meth c Q D A (WM a g) 4 (em S) 0 [(0, .ref (a 0)), (1, .int (Int32.ofInt v1)), (2, .int (Int32.ofInt v2)), (3, .int (Int32.ofInt v3))] [] := by
  obtain ⟨⟨hx, hb, hml, hown, hts⟩, -, -, -, hnf, hno⟩ := id hc
  intro S v1 v2 v3 h H locs ls hP hS hl
  rw [f_X9_endOf] at h
  replace hl : lv_has ls 4 [(0, .ref (a 0)), (1, .int (Int32.ofInt v1)), (2, .int (Int32.ofInt v2)), (3, .int (Int32.ofInt v3))] := hl
  refine lv_iload_n hx hb dX9_endOf_0 rfl (lv_at hl 3 rfl) ?_
  obtain ⟨h1, h⟩ := chk_at h
  refine z_if_eq (tgt := 27) hx hb h1 dX9_endOf_1 (by decide) (fun hq => ?_) (fun hq => ?_)
  · replace h := if_yes hq h
    refine lv_iload_n hx hb dX9_endOf_27 rfl (lv_at hl 2 rfl) ?_
    obtain ⟨h2, h⟩ := chk_at h
    refine z_if_ne (tgt := 40) hx hb h2 dX9_endOf_28 (by decide) (fun hq => ?_) (fun hq => ?_)
    · replace h := if_no hq h
      refine lv_bipush (v := Int32.ofInt (-9 : Int)) hx hb dX9_endOf_40 (by decide) ?_
      obtain rfl := Option.some.inj h
      exact hr _ _ _ _ dX9_endOf_42 hP hS
    · replace h := if_yes hq h
      refine lv_aload_n hx hb dX9_endOf_31 rfl (lv_at hl 0 rfl) ?_
      refine gfWM_HiddenEdgesModel_edgeOne hc hP q_108 dX9_endOf_32 ?_
      refine lv_iload_n hx hb dX9_endOf_35 rfl (lv_at hl 1 rfl) ?_
      obtain ⟨h3, h⟩ := chk_at h
      refine azWM_HiddenEdgesModel_edgeOne hc hP h3 dX9_endOf_36 ?_
      refine lv_goto (tgt := 42) hx hb dX9_endOf_37 (by decide) ?_
      obtain rfl := Option.some.inj h
      exact hr _ _ _ _ dX9_endOf_42 hP hS
  · replace h := if_no hq h
    refine lv_iload_n hx hb dX9_endOf_4 rfl (lv_at hl 2 rfl) ?_
    refine lv_iconst (v := Int32.ofInt (1 : Int)) hx hb dX9_endOf_5 (by decide) ?_
    refine z_iadd hx hb dX9_endOf_6 ?_
    refine lv_aload_n hx hb dX9_endOf_7 rfl (lv_at hl 0 rfl) ?_
    refine lv_iload_n hx hb dX9_endOf_8 rfl (lv_at hl 1 rfl) ?_
    obtain ⟨S4, x6, hk5, h⟩ := ob2_at h
    refine cl_Vi (As := [.int (Int32.ofInt v1)]) (rest := [.int (Int32.ofInt (v2 + (1 : Int)))]) hc k_X9_piecesOf q_600 (c_X9_piecesOf hk5) hP hS (WM_0 a g (em S)) rfl rfl rfl hl (Nat.le_of_ble_eq_true rfl) dX9_endOf_9 (Nat.le_of_ble_eq_true rfl) (Nat.le_of_ble_eq_true rfl) rfl (fun H locs hP hS => ?_)
    obtain ⟨h7, h⟩ := chk_at h
    obtain ⟨h8, h⟩ := chk_at h
    refine z_icmp_ne (tgt := 24) hx hb h7 h8 dX9_endOf_12 (by decide) (fun hq => ?_) (fun hq => ?_)
    · replace h := if_no hq h
      refine lv_bipush (v := Int32.ofInt (-9 : Int)) hx hb dX9_endOf_24 (by decide) ?_
      obtain rfl := Option.some.inj h
      exact hr _ _ _ _ dX9_endOf_26 hP hS
    · replace h := if_yes hq h
      refine lv_aload_n hx hb dX9_endOf_15 rfl (lv_at hl 0 rfl) ?_
      refine gfWM_HiddenEdgesModel_edgeOther hc hP q_109 dX9_endOf_16 ?_
      refine lv_iload_n hx hb dX9_endOf_19 rfl (lv_at hl 1 rfl) ?_
      obtain ⟨h9, h⟩ := chk_at h
      refine azWM_HiddenEdgesModel_edgeOther hc hP h9 dX9_endOf_20 ?_
      refine lv_goto (tgt := 26) hx hb dX9_endOf_21 (by decide) ?_
      obtain rfl := Option.some.inj h
      exact hr _ _ _ _ dX9_endOf_26 hP hS
abbrev rm_X9_endOf : Room := { frames := 1, cells := 0, slots := 0, locals := 21 }
theorem c_X9_endOf {l : Launch} {D : va_G} {a : Nat → Nat} {g : Nat → ClassId} {S : SZ} {v1 : Int} {v2 : Int} {v3 : Int} {Z1 : SZ} {r1 : Int} (h : f_X9_endOf S v1 v2 v3 = some (Z1, r1)) : MetI l D (tysWM g) (WM a g) E0 yX9_endOf cX9_endOf 4 (some .int) rm_X9_endOf [.ref (a 0), .int (Int32.ofInt v1), .int (Int32.ofInt v2), .int (Int32.ofInt v3)] (em S) (em Z1, Int32.ofInt r1) := mk_i (WM_same a g) (by decide) (em Z1, Int32.ofInt r1) (Nat.le_of_ble_eq_true rfl) (fun p e s m args below meth c A Q hc hE hr => t_X9_endOf (z := (Z1, r1)) hc hr S v1 v2 v3 h)
theorem k_X9_endOf : CalV RX9 yX9_endOf cX9_endOf 4 (some .int) rm_X9_endOf 3 := ⟨q_617, q_618, q_5, q_619, by decide +kernel, rfl, rfl⟩
set_option maxHeartbeats 4000000 in
set_option maxRecDepth 100000 in
theorem t_X9_goesOn_p44 {z : SZ × Int} (hc : Cx p R s m args c D (tysWM g) A (WM a g) cX9_goesOn 4 RX9 2 44) (hr : Rti p l e R s m args below meth c Q D A (WM a g) cX9_goesOn (em z.1, Int32.ofInt z.2)) {k2 : SZ → Int → Int → Option (SZ × Int)} (K2 : ∀ (S : SZ) (v1 : Int) (v2 : Int), k2 S v1 v2 = some z → Go p l e R s m args below meth c Q D A (WM a g) 4 (em S) 2 [(0, .ref (a 0)), (1, .int (Int32.ofInt v1)), (2, .int (Int32.ofInt v2))] []) : ∀ (S : SZ) (v1 : Int) (v2 : Int), f_X9_goesOn_p44 k2 S v1 v2 = some z → Go p l e R s m args below meth c Q D A (WM a g) 4 (em S) 44 [(0, .ref (a 0)), (1, .int (Int32.ofInt v1)), (2, .int (Int32.ofInt v2))] [] := by
  obtain ⟨⟨hx, hb, hml, hown, hts⟩, -, -, -, hnf, hno⟩ := id hc
  intro S v1 v2 h H locs ls hP hS hl
  rw [f_X9_goesOn_p44] at h
  refine lv_aload_n hx hb dX9_goesOn_44 rfl (lv_at hl 0 rfl) ?_
  refine lv_iload_n hx hb dX9_goesOn_45 rfl (lv_at hl 2 rfl) ?_
  obtain ⟨S1, x3, hk2, h⟩ := ob2_at h
  refine cl_Vi (As := [.int (Int32.ofInt v2)]) (rest := []) hc k_X9_piecesOf q_600 (c_X9_piecesOf hk2) hP hS (WM_0 a g (em S)) rfl rfl rfl hl (Nat.le_of_ble_eq_true rfl) dX9_goesOn_46 (Nat.le_of_ble_eq_true rfl) (Nat.le_of_ble_eq_true rfl) rfl (fun H locs hP hS => ?_)
  refine lv_iconst (v := Int32.ofInt (1 : Int)) hx hb dX9_goesOn_49 (by decide) ?_
  refine z_isub hx hb dX9_goesOn_50 ?_
  refine z_topi (fun x4 ex4 => ?_)
  replace h := olet_at ex4 h
  refine lv_istore_n (lv' := [(3, .int (Int32.ofInt x4)), (0, .ref (a 0)), (1, .int (Int32.ofInt v1)), (2, .int (Int32.ofInt v2))]) hx hb dX9_goesOn_51 rfl hl (by decide) rfl (fun ls hl => ?_)
  refine lv_aload_n hx hb dX9_goesOn_52 rfl (lv_at hl 1 rfl) ?_
  refine gfWM_HiddenEdgesModel_edgeOther hc hP q_109 dX9_goesOn_53 ?_
  refine lv_iload_n hx hb dX9_goesOn_56 rfl (lv_at hl 3 rfl) ?_
  obtain ⟨h5, h⟩ := chk_at h
  refine azWM_HiddenEdgesModel_edgeOther hc hP h5 dX9_goesOn_57 ?_
  refine lv_iload_n hx hb dX9_goesOn_58 rfl (lv_at hl 2 rfl) ?_
  obtain ⟨h6, h⟩ := chk_at h
  obtain ⟨h7, h⟩ := chk_at h
  refine z_icmp_ne (tgt := 86) hx hb h6 h7 dX9_goesOn_59 (by decide) (fun hq => ?_) (fun hq => ?_)
  · replace h := if_no hq h
    obtain ⟨x8, ex8⟩ : ∃ y : Int, y = v2 + (1 : Int) := ⟨_, rfl⟩
    replace h := olet_at ex8 h
    refine lv_iinc (v := Int32.ofInt x8) (lv' := [(2, .int (Int32.ofInt x8)), (3, .int (Int32.ofInt x4)), (0, .ref (a 0)), (1, .int (Int32.ofInt v1))]) hx hb dX9_goesOn_86 hl (k := 3) rfl (by rw [ex8, Int32.ofInt_add]) (by decide) rfl (fun ls hl => ?_)
    refine lv_goto (tgt := 2) hx hb dX9_goesOn_89 (by decide) ?_
    exact K2 S1 v1 x8 h H locs ls hP hS (lv_sub hl [2, 3, 0] rfl)
  · replace h := if_yes hq h
    refine lv_aload_n hx hb dX9_goesOn_62 rfl (lv_at hl 1 rfl) ?_
    refine lv_iload_n hx hb dX9_goesOn_63 rfl (lv_at hl 3 rfl) ?_
    refine lv_iload_n hx hb dX9_goesOn_64 rfl (lv_at hl 0 rfl) ?_
    obtain ⟨S9, x11, hk10, h⟩ := ob2_at h
    refine cl_Vi (As := [.int (Int32.ofInt v2), .int (Int32.ofInt x4)]) (rest := []) hc k_X9_isFree q_604 (c_X9_isFree hk10) hP hS (WM_0 a g (em S1)) rfl rfl rfl hl (Nat.le_of_ble_eq_true rfl) dX9_goesOn_65 (Nat.le_of_ble_eq_true rfl) (Nat.le_of_ble_eq_true rfl) rfl (fun H locs hP hS => ?_)
    obtain ⟨h12, h⟩ := chk_at h
    refine z_if_eq (tgt := 86) hx hb h12 dX9_goesOn_68 (by decide) (fun hq => ?_) (fun hq => ?_)
    · replace h := if_yes hq h
      obtain ⟨x13, ex13⟩ : ∃ y : Int, y = v2 + (1 : Int) := ⟨_, rfl⟩
      replace h := olet_at ex13 h
      refine lv_iinc (v := Int32.ofInt x13) (lv' := [(2, .int (Int32.ofInt x13)), (3, .int (Int32.ofInt x4)), (0, .ref (a 0)), (1, .int (Int32.ofInt v1))]) hx hb dX9_goesOn_86 hl (k := 3) rfl (by rw [ex13, Int32.ofInt_add]) (by decide) rfl (fun ls hl => ?_)
      refine lv_goto (tgt := 2) hx hb dX9_goesOn_89 (by decide) ?_
      exact K2 S9 v1 x13 h H locs ls hP hS (lv_sub hl [2, 3, 0] rfl)
    · replace h := if_no hq h
      refine lv_aload_n hx hb dX9_goesOn_71 rfl (lv_at hl 1 rfl) ?_
      refine lv_iload_n hx hb dX9_goesOn_72 rfl (lv_at hl 3 rfl) ?_
      refine lv_iload_n hx hb dX9_goesOn_73 rfl (lv_at hl 0 rfl) ?_
      refine lv_iconst (v := Int32.ofInt (0 : Int)) hx hb dX9_goesOn_74 (by decide) ?_
      obtain ⟨S14, hk15, h⟩ := ob1_at h
      refine cl_Vv (As := [.int (Int32.ofInt v2), .int (Int32.ofInt x4), .int (Int32.ofInt (0 : Int))]) (rest := []) hc k_X9_lays q_612 (c_X9_lays hk15) hP hS (WM_0 a g (em S9)) rfl rfl rfl hl (Nat.le_of_ble_eq_true rfl) dX9_goesOn_75 (Nat.le_of_ble_eq_true rfl) (Nat.le_of_ble_eq_true rfl) rfl (fun H locs hP hS => ?_)
      refine lv_aload_n hx hb dX9_goesOn_78 rfl (lv_at hl 1 rfl) ?_
      refine lv_iload_n hx hb dX9_goesOn_79 rfl (lv_at hl 3 rfl) ?_
      refine lv_iload_n hx hb dX9_goesOn_80 rfl (lv_at hl 0 rfl) ?_
      refine lv_iconst (v := Int32.ofInt (0 : Int)) hx hb dX9_goesOn_81 (by decide) ?_
      obtain ⟨S16, x18, hk17, h⟩ := ob2_at h
      refine cl_Vi (As := [.int (Int32.ofInt v2), .int (Int32.ofInt x4), .int (Int32.ofInt (0 : Int))]) (rest := []) hc k_X9_endOf q_616 (c_X9_endOf hk17) hP hS (WM_0 a g (em S14)) rfl rfl rfl hl (Nat.le_of_ble_eq_true rfl) dX9_goesOn_82 (Nat.le_of_ble_eq_true rfl) (Nat.le_of_ble_eq_true rfl) rfl (fun H locs hP hS => ?_)
      obtain rfl := Option.some.inj h
      exact hr _ _ _ _ dX9_goesOn_85 hP hS
set_option maxHeartbeats 4000000 in
set_option maxRecDepth 100000 in
theorem t_X9_goesOn_p2 {z : SZ × Int} (hc : Cx p R s m args c D (tysWM g) A (WM a g) cX9_goesOn 4 RX9 2 44) (hr : Rti p l e R s m args below meth c Q D A (WM a g) cX9_goesOn (em z.1, Int32.ofInt z.2)) : ∀ (fu : Nat) (S : SZ) (v1 : Int) (v2 : Int), f_X9_goesOn_p2 fu S v1 v2 = some z → Go p l e R s m args below meth c Q D A (WM a g) 4 (em S) 2 [(0, .ref (a 0)), (1, .int (Int32.ofInt v1)), (2, .int (Int32.ofInt v2))] [] := by
  obtain ⟨⟨hx, hb, hml, hown, hts⟩, -, -, -, hnf, hno⟩ := id hc
  intro fu
  induction fu with
  | zero =>
    intro S v1 v2 h
    rw [f_X9_goesOn_p2] at h
    cases h
  | succ fu ih =>
    intro S v1 v2 h H locs ls hP hS hl
    rw [f_X9_goesOn_p2] at h
    refine lv_iload_n hx hb dX9_goesOn_2 rfl (lv_at hl 2 rfl) ?_
    refine lv_aload_n hx hb dX9_goesOn_3 rfl (lv_at hl 0 rfl) ?_
    refine gzWM_HiddenEdgesModel_edges hc hP q_539 dX9_goesOn_4 ?_
    obtain ⟨h1, h⟩ := chk_at h
    obtain ⟨h2, h⟩ := chk_at h
    refine z_icmp_ge (tgt := 92) hx hb h1 h2 dX9_goesOn_7 (by decide) (fun hq => ?_) (fun hq => ?_)
    · replace h := if_yes hq h
      refine lv_bipush (v := Int32.ofInt (-9 : Int)) hx hb dX9_goesOn_92 (by decide) ?_
      obtain rfl := Option.some.inj h
      exact hr _ _ _ _ dX9_goesOn_94 hP hS
    · replace h := if_no hq h
      refine lv_aload_n hx hb dX9_goesOn_10 rfl (lv_at hl 0 rfl) ?_
      refine gfWM_HiddenEdgesModel_edgeOne hc hP q_108 dX9_goesOn_11 ?_
      refine lv_iload_n hx hb dX9_goesOn_14 rfl (lv_at hl 2 rfl) ?_
      obtain ⟨h3, h⟩ := chk_at h
      refine azWM_HiddenEdgesModel_edgeOne hc hP h3 dX9_goesOn_15 ?_
      refine lv_iload_n hx hb dX9_goesOn_16 rfl (lv_at hl 1 rfl) ?_
      obtain ⟨h4, h⟩ := chk_at h
      obtain ⟨h5, h⟩ := chk_at h
      refine z_icmp_ne (tgt := 44) hx hb h4 h5 dX9_goesOn_17 (by decide) (fun hq => ?_) (fun hq => ?_)
      · replace h := if_no hq h
        exact t_X9_goesOn_p44 hc hr ih S v1 v2 h H locs ls hP hS (lv_sub hl [0, 1, 2] rfl)
      · replace h := if_yes hq h
        refine lv_aload_n hx hb dX9_goesOn_20 rfl (lv_at hl 0 rfl) ?_
        refine lv_iload_n hx hb dX9_goesOn_21 rfl (lv_at hl 2 rfl) ?_
        refine lv_iconst (v := Int32.ofInt (0 : Int)) hx hb dX9_goesOn_22 (by decide) ?_
        obtain ⟨S6, x8, hk7, h⟩ := ob2_at h
        refine cl_Vi (As := [.int (Int32.ofInt v2), .int (Int32.ofInt (0 : Int))]) (rest := []) hc k_X9_isFree q_604 (c_X9_isFree hk7) hP hS (WM_0 a g (em S)) rfl rfl rfl hl (Nat.le_of_ble_eq_true rfl) dX9_goesOn_23 (Nat.le_of_ble_eq_true rfl) (Nat.le_of_ble_eq_true rfl) rfl (fun H locs hP hS => ?_)
        obtain ⟨h9, h⟩ := chk_at h
        refine z_if_eq (tgt := 44) hx hb h9 dX9_goesOn_26 (by decide) (fun hq => ?_) (fun hq => ?_)
        · replace h := if_yes hq h
          exact t_X9_goesOn_p44 hc hr ih S6 v1 v2 h H locs ls hP hS (lv_sub hl [0, 1, 2] rfl)
        · replace h := if_no hq h
          refine lv_aload_n hx hb dX9_goesOn_29 rfl (lv_at hl 0 rfl) ?_
          refine lv_iload_n hx hb dX9_goesOn_30 rfl (lv_at hl 2 rfl) ?_
          refine lv_iconst (v := Int32.ofInt (0 : Int)) hx hb dX9_goesOn_31 (by decide) ?_
          refine lv_iconst (v := Int32.ofInt (1 : Int)) hx hb dX9_goesOn_32 (by decide) ?_
          obtain ⟨S10, hk11, h⟩ := ob1_at h
          refine cl_Vv (As := [.int (Int32.ofInt v2), .int (Int32.ofInt (0 : Int)), .int (Int32.ofInt (1 : Int))]) (rest := []) hc k_X9_lays q_612 (c_X9_lays hk11) hP hS (WM_0 a g (em S6)) rfl rfl rfl hl (Nat.le_of_ble_eq_true rfl) dX9_goesOn_33 (Nat.le_of_ble_eq_true rfl) (Nat.le_of_ble_eq_true rfl) rfl (fun H locs hP hS => ?_)
          refine lv_aload_n hx hb dX9_goesOn_36 rfl (lv_at hl 0 rfl) ?_
          refine lv_iload_n hx hb dX9_goesOn_37 rfl (lv_at hl 2 rfl) ?_
          refine lv_iconst (v := Int32.ofInt (0 : Int)) hx hb dX9_goesOn_38 (by decide) ?_
          refine lv_iconst (v := Int32.ofInt (1 : Int)) hx hb dX9_goesOn_39 (by decide) ?_
          obtain ⟨S12, x14, hk13, h⟩ := ob2_at h
          refine cl_Vi (As := [.int (Int32.ofInt v2), .int (Int32.ofInt (0 : Int)), .int (Int32.ofInt (1 : Int))]) (rest := []) hc k_X9_endOf q_616 (c_X9_endOf hk13) hP hS (WM_0 a g (em S10)) rfl rfl rfl hl (Nat.le_of_ble_eq_true rfl) dX9_goesOn_40 (Nat.le_of_ble_eq_true rfl) (Nat.le_of_ble_eq_true rfl) rfl (fun H locs hP hS => ?_)
          obtain rfl := Option.some.inj h
          exact hr _ _ _ _ dX9_goesOn_43 hP hS
set_option maxHeartbeats 4000000 in
set_option maxRecDepth 100000 in
theorem t_X9_goesOn {z : SZ × Int} (hc : Cx p R s m args c D (tysWM g) A (WM a g) cX9_goesOn 4 RX9 2 44) (hr : Rti p l e R s m args below meth c Q D A (WM a g) cX9_goesOn (em z.1, Int32.ofInt z.2)) : ∀ (S : SZ) (v1 : Int), f_X9_goesOn S v1 = some z → Go p l e R s m args below meth c Q D A (WM a g) 4 (em S) 0 [(0, .ref (a 0)), (1, .int (Int32.ofInt v1))] [] := by
  obtain ⟨⟨hx, hb, hml, hown, hts⟩, -, -, -, hnf, hno⟩ := id hc
  intro S v1 h H locs ls hP hS hl
  rw [f_X9_goesOn] at h
  replace hl : lv_has ls 4 [(0, .ref (a 0)), (1, .int (Int32.ofInt v1))] := hl
  refine lv_iconst (v := Int32.ofInt (0 : Int)) hx hb dX9_goesOn_0 (by decide) ?_
  refine lv_istore_n (lv' := [(2, .int (Int32.ofInt (0 : Int))), (0, .ref (a 0)), (1, .int (Int32.ofInt v1))]) hx hb dX9_goesOn_1 rfl hl (by decide) rfl (fun ls hl => ?_)
  exact t_X9_goesOn_p2 hc hr FU S v1 (0 : Int) h H locs ls hP hS (lv_sub hl [1, 2, 0] rfl)
abbrev rm_X9_goesOn : Room := { frames := 2, cells := 0, slots := 0, locals := 44 }
theorem c_X9_goesOn {l : Launch} {D : va_G} {a : Nat → Nat} {g : Nat → ClassId} {S : SZ} {v1 : Int} {Z1 : SZ} {r1 : Int} (h : f_X9_goesOn S v1 = some (Z1, r1)) : MetI l D (tysWM g) (WM a g) E0 yX9_goesOn cX9_goesOn 4 (some .int) rm_X9_goesOn [.ref (a 0), .int (Int32.ofInt v1)] (em S) (em Z1, Int32.ofInt r1) := mk_i (WM_same a g) (by decide) (em Z1, Int32.ofInt r1) (Nat.le_of_ble_eq_true rfl) (fun p e s m args below meth c A Q hc hE hr => t_X9_goesOn (z := (Z1, r1)) hc hr S v1 h)
theorem k_X9_goesOn : CalV RX9 yX9_goesOn cX9_goesOn 4 (some .int) rm_X9_goesOn 1 := ⟨q_621, q_622, q_5, q_623, by decide +kernel, rfl, rfl⟩
set_option maxHeartbeats 4000000 in
set_option maxRecDepth 100000 in
theorem t_X9_findStrokes_p102 {z : SZ} (hc : Cx p R s m args c D (tysWM g) A (WM a g) cX9_findStrokes 4 RX9 3 67) (hr : Rtv p l e R s m args below meth c Q D A (WM a g) cX9_findStrokes (em z)) {k36 : SZ → Int → Option (SZ)} (K36 : ∀ (S : SZ) (v1 : Int), k36 S v1 = some z → Go p l e R s m args below meth c Q D A (WM a g) 4 (em S) 36 [(0, .ref (a 0)), (1, .int (Int32.ofInt v1))] []) {k46 : SZ → Int → Int → Option (SZ)} (K46 : ∀ (S : SZ) (v1 : Int) (v2 : Int), k46 S v1 v2 = some z → Go p l e R s m args below meth c Q D A (WM a g) 4 (em S) 46 [(0, .ref (a 0)), (1, .int (Int32.ofInt v1)), (2, .int (Int32.ofInt v2))] []) : ∀ (fu : Nat) (S : SZ) (v1 : Int) (v2 : Int) (v3 : Int), f_X9_findStrokes_p102 k36 k46 fu S v1 v2 v3 = some z → Go p l e R s m args below meth c Q D A (WM a g) 4 (em S) 102 [(0, .ref (a 0)), (1, .int (Int32.ofInt v1)), (2, .int (Int32.ofInt v2)), (3, .int (Int32.ofInt v3))] [] := by
  obtain ⟨⟨hx, hb, hml, hown, hts⟩, -, -, -, hnf, hno⟩ := id hc
  intro fu
  induction fu with
  | zero =>
    intro S v1 v2 v3 h
    rw [f_X9_findStrokes_p102] at h
    cases h
  | succ fu ih =>
    intro S v1 v2 v3 h H locs ls hP hS hl
    rw [f_X9_findStrokes_p102] at h
    refine lv_iload_n hx hb dX9_findStrokes_102 rfl (lv_at hl 3 rfl) ?_
    refine lv_bipush (v := Int32.ofInt (-9 : Int)) hx hb dX9_findStrokes_103 (by decide) ?_
    obtain ⟨h1, h⟩ := chk_at h
    refine z_icmp_eq (tgt := 117) hx hb h1 (by decide) dX9_findStrokes_105 (by decide) (fun hq => ?_) (fun hq => ?_)
    · replace h := if_yes hq h
      obtain ⟨x2, ex2⟩ : ∃ y : Int, y = v2 + (1 : Int) := ⟨_, rfl⟩
      replace h := olet_at ex2 h
      refine lv_iinc (v := Int32.ofInt x2) (lv' := [(2, .int (Int32.ofInt x2)), (0, .ref (a 0)), (1, .int (Int32.ofInt v1)), (3, .int (Int32.ofInt v3))]) hx hb dX9_findStrokes_117 hl (k := 2) rfl (by rw [ex2, Int32.ofInt_add]) (by decide) rfl (fun ls hl => ?_)
      refine lv_goto (tgt := 46) hx hb dX9_findStrokes_120 (by decide) ?_
      exact K46 S v1 x2 h H locs ls hP hS (lv_sub hl [1, 2, 0] rfl)
    · replace h := if_no hq h
      refine lv_aload_n hx hb dX9_findStrokes_108 rfl (lv_at hl 0 rfl) ?_
      refine lv_iload_n hx hb dX9_findStrokes_109 rfl (lv_at hl 3 rfl) ?_
      obtain ⟨S3, x5, hk4, h⟩ := ob2_at h
      refine cl_Vi (As := [.int (Int32.ofInt v3)]) (rest := []) hc k_X9_goesOn q_620 (c_X9_goesOn hk4) hP hS (WM_0 a g (em S)) rfl rfl rfl hl (Nat.le_of_ble_eq_true rfl) dX9_findStrokes_110 (Nat.le_of_ble_eq_true rfl) (Nat.le_of_ble_eq_true rfl) rfl (fun H locs hP hS => ?_)
      refine lv_istore_n (lv' := [(3, .int (Int32.ofInt x5)), (0, .ref (a 0)), (1, .int (Int32.ofInt v1)), (2, .int (Int32.ofInt v2))]) hx hb dX9_findStrokes_113 rfl hl (by decide) rfl (fun ls hl => ?_)
      refine lv_goto (tgt := 102) hx hb dX9_findStrokes_114 (by decide) ?_
      exact ih S3 v1 v2 x5 h H locs ls hP hS (lv_sub hl [1, 2, 3, 0] rfl)
set_option maxHeartbeats 4000000 in
set_option maxRecDepth 100000 in
theorem t_X9_findStrokes_p46 {z : SZ} (hc : Cx p R s m args c D (tysWM g) A (WM a g) cX9_findStrokes 4 RX9 3 67) (hr : Rtv p l e R s m args below meth c Q D A (WM a g) cX9_findStrokes (em z)) {k36 : SZ → Int → Option (SZ)} (K36 : ∀ (S : SZ) (v1 : Int), k36 S v1 = some z → Go p l e R s m args below meth c Q D A (WM a g) 4 (em S) 36 [(0, .ref (a 0)), (1, .int (Int32.ofInt v1))] []) : ∀ (fu : Nat) (S : SZ) (v1 : Int) (v2 : Int), f_X9_findStrokes_p46 k36 fu S v1 v2 = some z → Go p l e R s m args below meth c Q D A (WM a g) 4 (em S) 46 [(0, .ref (a 0)), (1, .int (Int32.ofInt v1)), (2, .int (Int32.ofInt v2))] [] := by
  obtain ⟨⟨hx, hb, hml, hown, hts⟩, -, -, -, hnf, hno⟩ := id hc
  intro fu
  induction fu with
  | zero =>
    intro S v1 v2 h
    rw [f_X9_findStrokes_p46] at h
    cases h
  | succ fu ih =>
    intro S v1 v2 h H locs ls hP hS hl
    rw [f_X9_findStrokes_p46] at h
    refine lv_iload_n hx hb dX9_findStrokes_46 rfl (lv_at hl 2 rfl) ?_
    refine lv_aload_n hx hb dX9_findStrokes_47 rfl (lv_at hl 0 rfl) ?_
    refine lv_iload_n hx hb dX9_findStrokes_48 rfl (lv_at hl 1 rfl) ?_
    obtain ⟨S1, x3, hk2, h⟩ := ob2_at h
    refine cl_Vi (As := [.int (Int32.ofInt v1)]) (rest := [.int (Int32.ofInt v2)]) hc k_X9_piecesOf q_600 (c_X9_piecesOf hk2) hP hS (WM_0 a g (em S)) rfl rfl rfl hl (Nat.le_of_ble_eq_true rfl) dX9_findStrokes_49 (Nat.le_of_ble_eq_true rfl) (Nat.le_of_ble_eq_true rfl) rfl (fun H locs hP hS => ?_)
    obtain ⟨h4, h⟩ := chk_at h
    obtain ⟨h5, h⟩ := chk_at h
    refine z_icmp_ge (tgt := 123) hx hb h4 h5 dX9_findStrokes_52 (by decide) (fun hq => ?_) (fun hq => ?_)
    · replace h := if_yes hq h
      obtain ⟨x6, ex6⟩ : ∃ y : Int, y = v1 + (1 : Int) := ⟨_, rfl⟩
      replace h := olet_at ex6 h
      refine lv_iinc (v := Int32.ofInt x6) (lv' := [(1, .int (Int32.ofInt x6)), (0, .ref (a 0)), (2, .int (Int32.ofInt v2))]) hx hb dX9_findStrokes_123 hl (k := 1) rfl (by rw [ex6, Int32.ofInt_add]) (by decide) rfl (fun ls hl => ?_)
      refine lv_goto (tgt := 36) hx hb dX9_findStrokes_126 (by decide) ?_
      exact K36 S1 x6 h H locs ls hP hS (lv_sub hl [1, 0] rfl)
    · replace h := if_no hq h
      refine lv_aload_n hx hb dX9_findStrokes_55 rfl (lv_at hl 0 rfl) ?_
      refine lv_iload_n hx hb dX9_findStrokes_56 rfl (lv_at hl 1 rfl) ?_
      refine lv_iload_n hx hb dX9_findStrokes_57 rfl (lv_at hl 2 rfl) ?_
      obtain ⟨S7, x9, hk8, h⟩ := ob2_at h
      refine cl_Vi (As := [.int (Int32.ofInt v1), .int (Int32.ofInt v2)]) (rest := []) hc k_X9_isFree q_604 (c_X9_isFree hk8) hP hS (WM_0 a g (em S1)) rfl rfl rfl hl (Nat.le_of_ble_eq_true rfl) dX9_findStrokes_58 (Nat.le_of_ble_eq_true rfl) (Nat.le_of_ble_eq_true rfl) rfl (fun H locs hP hS => ?_)
      obtain ⟨h10, h⟩ := chk_at h
      refine z_if_eq (tgt := 117) hx hb h10 dX9_findStrokes_61 (by decide) (fun hq => ?_) (fun hq => ?_)
      · replace h := if_yes hq h
        obtain ⟨x11, ex11⟩ : ∃ y : Int, y = v2 + (1 : Int) := ⟨_, rfl⟩
        replace h := olet_at ex11 h
        refine lv_iinc (v := Int32.ofInt x11) (lv' := [(2, .int (Int32.ofInt x11)), (0, .ref (a 0)), (1, .int (Int32.ofInt v1))]) hx hb dX9_findStrokes_117 hl (k := 2) rfl (by rw [ex11, Int32.ofInt_add]) (by decide) rfl (fun ls hl => ?_)
        refine lv_goto (tgt := 46) hx hb dX9_findStrokes_120 (by decide) ?_
        exact ih S7 v1 x11 h H locs ls hP hS (lv_sub hl [1, 2, 0] rfl)
      · replace h := if_no hq h
        refine lv_aload_n hx hb dX9_findStrokes_64 rfl (lv_at hl 0 rfl) ?_
        refine gfWM_HiddenEdgesModel_strokeAt hc hP q_116 dX9_findStrokes_65 ?_
        refine lv_aload_n hx hb dX9_findStrokes_68 rfl (lv_at hl 0 rfl) ?_
        refine gzWM_HiddenEdgesModel_strokes hc hP q_598 dX9_findStrokes_69 ?_
        refine lv_aload_n hx hb dX9_findStrokes_72 rfl (lv_at hl 0 rfl) ?_
        refine gzWM_HiddenEdgesModel_laid hc hP q_599 dX9_findStrokes_73 ?_
        obtain ⟨h12, h⟩ := chk_at h
        refine szWM_HiddenEdgesModel_strokeAt hc hP hS h12 dX9_findStrokes_76 (fun H locs hP hS => ?_)
        obtain ⟨S13, eS13⟩ : ∃ z, z = ua S7 14 ((zi S7 8)).toNat (zi S7 9) := ⟨_, rfl⟩
        replace h := olet_at eS13 h
        rw [← eS13] at hP
        refine lv_aload_n hx hb dX9_findStrokes_77 rfl (lv_at hl 0 rfl) ?_
        refine lv_dup hx hb dX9_findStrokes_78 rfl ?_
        refine gzWM_HiddenEdgesModel_strokes hc hP q_598 dX9_findStrokes_79 ?_
        refine lv_iconst (v := Int32.ofInt (1 : Int)) hx hb dX9_findStrokes_82 (by decide) ?_
        refine z_iadd hx hb dX9_findStrokes_83 ?_
        refine pzWM_HiddenEdgesModel_strokes hc hP hS q_598 dX9_findStrokes_84 (fun H locs hP hS => ?_)
        obtain ⟨S14, eS14⟩ : ∃ z, z = ui S13 8 ((zi S13 8) + (1 : Int)) := ⟨_, rfl⟩
        replace h := olet_at eS14 h
        rw [← eS14] at hP
        refine lv_aload_n hx hb dX9_findStrokes_87 rfl (lv_at hl 0 rfl) ?_
        refine lv_iload_n hx hb dX9_findStrokes_88 rfl (lv_at hl 1 rfl) ?_
        refine lv_iload_n hx hb dX9_findStrokes_89 rfl (lv_at hl 2 rfl) ?_
        refine lv_iconst (v := Int32.ofInt (1 : Int)) hx hb dX9_findStrokes_90 (by decide) ?_
        obtain ⟨S15, hk16, h⟩ := ob1_at h
        refine cl_Vv (As := [.int (Int32.ofInt v1), .int (Int32.ofInt v2), .int (Int32.ofInt (1 : Int))]) (rest := []) hc k_X9_lays q_612 (c_X9_lays hk16) hP hS (WM_0 a g (em S14)) rfl rfl rfl hl (Nat.le_of_ble_eq_true rfl) dX9_findStrokes_91 (Nat.le_of_ble_eq_true rfl) (Nat.le_of_ble_eq_true rfl) rfl (fun H locs hP hS => ?_)
        refine lv_aload_n hx hb dX9_findStrokes_94 rfl (lv_at hl 0 rfl) ?_
        refine lv_iload_n hx hb dX9_findStrokes_95 rfl (lv_at hl 1 rfl) ?_
        refine lv_iload_n hx hb dX9_findStrokes_96 rfl (lv_at hl 2 rfl) ?_
        refine lv_iconst (v := Int32.ofInt (1 : Int)) hx hb dX9_findStrokes_97 (by decide) ?_
        obtain ⟨S17, x19, hk18, h⟩ := ob2_at h
        refine cl_Vi (As := [.int (Int32.ofInt v1), .int (Int32.ofInt v2), .int (Int32.ofInt (1 : Int))]) (rest := []) hc k_X9_endOf q_616 (c_X9_endOf hk18) hP hS (WM_0 a g (em S15)) rfl rfl rfl hl (Nat.le_of_ble_eq_true rfl) dX9_findStrokes_98 (Nat.le_of_ble_eq_true rfl) (Nat.le_of_ble_eq_true rfl) rfl (fun H locs hP hS => ?_)
        refine lv_istore_n (lv' := [(3, .int (Int32.ofInt x19)), (0, .ref (a 0)), (1, .int (Int32.ofInt v1)), (2, .int (Int32.ofInt v2))]) hx hb dX9_findStrokes_101 rfl hl (by decide) rfl (fun ls hl => ?_)
        exact t_X9_findStrokes_p102 hc hr K36 ih FU S17 v1 v2 x19 h H locs ls hP hS (lv_sub hl [1, 2, 3, 0] rfl)
set_option maxHeartbeats 4000000 in
set_option maxRecDepth 100000 in
theorem t_X9_findStrokes_p36 {z : SZ} (hc : Cx p R s m args c D (tysWM g) A (WM a g) cX9_findStrokes 4 RX9 3 67) (hr : Rtv p l e R s m args below meth c Q D A (WM a g) cX9_findStrokes (em z)) : ∀ (fu : Nat) (S : SZ) (v1 : Int), f_X9_findStrokes_p36 fu S v1 = some z → Go p l e R s m args below meth c Q D A (WM a g) 4 (em S) 36 [(0, .ref (a 0)), (1, .int (Int32.ofInt v1))] [] := by
  obtain ⟨⟨hx, hb, hml, hown, hts⟩, -, -, -, hnf, hno⟩ := id hc
  intro fu
  induction fu with
  | zero =>
    intro S v1 h
    rw [f_X9_findStrokes_p36] at h
    cases h
  | succ fu ih =>
    intro S v1 h H locs ls hP hS hl
    rw [f_X9_findStrokes_p36] at h
    refine lv_iload_n hx hb dX9_findStrokes_36 rfl (lv_at hl 1 rfl) ?_
    refine lv_aload_n hx hb dX9_findStrokes_37 rfl (lv_at hl 0 rfl) ?_
    refine gzWM_HiddenEdgesModel_edges hc hP q_539 dX9_findStrokes_38 ?_
    obtain ⟨h1, h⟩ := chk_at h
    obtain ⟨h2, h⟩ := chk_at h
    refine z_icmp_ge (tgt := 129) hx hb h1 h2 dX9_findStrokes_41 (by decide) (fun hq => ?_) (fun hq => ?_)
    · replace h := if_yes hq h
      refine lv_aload_n hx hb dX9_findStrokes_129 rfl (lv_at hl 0 rfl) ?_
      refine gfWM_HiddenEdgesModel_strokeAt hc hP q_116 dX9_findStrokes_130 ?_
      refine lv_aload_n hx hb dX9_findStrokes_133 rfl (lv_at hl 0 rfl) ?_
      refine gzWM_HiddenEdgesModel_strokes hc hP q_598 dX9_findStrokes_134 ?_
      refine lv_aload_n hx hb dX9_findStrokes_137 rfl (lv_at hl 0 rfl) ?_
      refine gzWM_HiddenEdgesModel_laid hc hP q_599 dX9_findStrokes_138 ?_
      obtain ⟨h3, h⟩ := chk_at h
      refine szWM_HiddenEdgesModel_strokeAt hc hP hS h3 dX9_findStrokes_141 (fun H locs hP hS => ?_)
      obtain ⟨S4, eS4⟩ : ∃ z, z = ua S 14 ((zi S 8)).toNat (zi S 9) := ⟨_, rfl⟩
      replace h := olet_at eS4 h
      rw [← eS4] at hP
      obtain rfl := Option.some.inj h
      exact hr _ _ _ _ dX9_findStrokes_142 hP hS
    · replace h := if_no hq h
      refine lv_iconst (v := Int32.ofInt (0 : Int)) hx hb dX9_findStrokes_44 (by decide) ?_
      refine lv_istore_n (lv' := [(2, .int (Int32.ofInt (0 : Int))), (0, .ref (a 0)), (1, .int (Int32.ofInt v1))]) hx hb dX9_findStrokes_45 rfl hl (by decide) rfl (fun ls hl => ?_)
      exact t_X9_findStrokes_p46 hc hr ih FU S v1 (0 : Int) h H locs ls hP hS (lv_sub hl [1, 2, 0] rfl)
set_option maxHeartbeats 4000000 in
set_option maxRecDepth 100000 in
theorem t_X9_findStrokes_p12 {z : SZ} (hc : Cx p R s m args c D (tysWM g) A (WM a g) cX9_findStrokes 4 RX9 3 67) (hr : Rtv p l e R s m args below meth c Q D A (WM a g) cX9_findStrokes (em z)) : ∀ (fu : Nat) (S : SZ) (v1 : Int), f_X9_findStrokes_p12 fu S v1 = some z → Go p l e R s m args below meth c Q D A (WM a g) 4 (em S) 12 [(0, .ref (a 0)), (1, .int (Int32.ofInt v1))] [] := by
  obtain ⟨⟨hx, hb, hml, hown, hts⟩, -, -, -, hnf, hno⟩ := id hc
  intro fu
  induction fu with
  | zero =>
    intro S v1 h
    rw [f_X9_findStrokes_p12] at h
    cases h
  | succ fu ih =>
    intro S v1 h H locs ls hP hS hl
    rw [f_X9_findStrokes_p12] at h
    refine lv_iload_n hx hb dX9_findStrokes_12 rfl (lv_at hl 1 rfl) ?_
    refine lv_aload_n hx hb dX9_findStrokes_13 rfl (lv_at hl 0 rfl) ?_
    refine gfWM_HiddenEdgesModel_isLaid hc hP q_121 dX9_findStrokes_14 ?_
    refine nzWM_HiddenEdgesModel_isLaid hc hP dX9_findStrokes_17 ?_
    obtain ⟨h1, h⟩ := chk_at h
    refine z_icmp_ge (tgt := 34) hx hb h1 (by decide) dX9_findStrokes_18 (by decide) (fun hq => ?_) (fun hq => ?_)
    · replace h := if_yes hq h
      refine lv_iconst (v := Int32.ofInt (0 : Int)) hx hb dX9_findStrokes_34 (by decide) ?_
      refine lv_istore_n (lv' := [(1, .int (Int32.ofInt (0 : Int))), (0, .ref (a 0))]) hx hb dX9_findStrokes_35 rfl hl (by decide) rfl (fun ls hl => ?_)
      exact t_X9_findStrokes_p36 hc hr FU S (0 : Int) h H locs ls hP hS (lv_sub hl [1, 0] rfl)
    · replace h := if_no hq h
      refine lv_aload_n hx hb dX9_findStrokes_21 rfl (lv_at hl 0 rfl) ?_
      refine gfWM_HiddenEdgesModel_isLaid hc hP q_121 dX9_findStrokes_22 ?_
      refine lv_iload_n hx hb dX9_findStrokes_25 rfl (lv_at hl 1 rfl) ?_
      refine lv_iconst (v := Int32.ofInt (0 : Int)) hx hb dX9_findStrokes_26 (by decide) ?_
      obtain ⟨h2, h⟩ := chk_at h
      refine szWM_HiddenEdgesModel_isLaid hc hP hS h2 (Or.inl rfl) dX9_findStrokes_27 (fun H locs hP hS => ?_)
      obtain ⟨S3, eS3⟩ : ∃ z, z = ua S 18 (v1).toNat (0 : Int) := ⟨_, rfl⟩
      replace h := olet_at eS3 h
      rw [← eS3] at hP
      obtain ⟨x4, ex4⟩ : ∃ y : Int, y = v1 + (1 : Int) := ⟨_, rfl⟩
      replace h := olet_at ex4 h
      refine lv_iinc (v := Int32.ofInt x4) (lv' := [(1, .int (Int32.ofInt x4)), (0, .ref (a 0))]) hx hb dX9_findStrokes_28 hl (k := 1) rfl (by rw [ex4, Int32.ofInt_add]) (by decide) rfl (fun ls hl => ?_)
      refine lv_goto (tgt := 12) hx hb dX9_findStrokes_31 (by decide) ?_
      exact ih S3 x4 h H locs ls hP hS (lv_sub hl [1, 0] rfl)
set_option maxHeartbeats 4000000 in
set_option maxRecDepth 100000 in
theorem t_X9_findStrokes {z : SZ} (hc : Cx p R s m args c D (tysWM g) A (WM a g) cX9_findStrokes 4 RX9 3 67) (hr : Rtv p l e R s m args below meth c Q D A (WM a g) cX9_findStrokes (em z)) : ∀ (S : SZ), f_X9_findStrokes S = some z → Go p l e R s m args below meth c Q D A (WM a g) 4 (em S) 0 [(0, .ref (a 0))] [] := by
  obtain ⟨⟨hx, hb, hml, hown, hts⟩, -, -, -, hnf, hno⟩ := id hc
  intro S h H locs ls hP hS hl
  rw [f_X9_findStrokes] at h
  replace hl : lv_has ls 4 [(0, .ref (a 0))] := hl
  refine lv_aload_n hx hb dX9_findStrokes_0 rfl (lv_at hl 0 rfl) ?_
  refine lv_iconst (v := Int32.ofInt (0 : Int)) hx hb dX9_findStrokes_1 (by decide) ?_
  refine pzWM_HiddenEdgesModel_strokes hc hP hS q_598 dX9_findStrokes_2 (fun H locs hP hS => ?_)
  obtain ⟨S1, eS1⟩ : ∃ z, z = ui S 8 (0 : Int) := ⟨_, rfl⟩
  replace h := olet_at eS1 h
  rw [← eS1] at hP
  refine lv_aload_n hx hb dX9_findStrokes_5 rfl (lv_at hl 0 rfl) ?_
  refine lv_iconst (v := Int32.ofInt (0 : Int)) hx hb dX9_findStrokes_6 (by decide) ?_
  refine pzWM_HiddenEdgesModel_laid hc hP hS q_599 dX9_findStrokes_7 (fun H locs hP hS => ?_)
  obtain ⟨S2, eS2⟩ : ∃ z, z = ui S1 9 (0 : Int) := ⟨_, rfl⟩
  replace h := olet_at eS2 h
  rw [← eS2] at hP
  refine lv_iconst (v := Int32.ofInt (0 : Int)) hx hb dX9_findStrokes_10 (by decide) ?_
  refine lv_istore_n (lv' := [(1, .int (Int32.ofInt (0 : Int))), (0, .ref (a 0))]) hx hb dX9_findStrokes_11 rfl hl (by decide) rfl (fun ls hl => ?_)
  exact t_X9_findStrokes_p12 hc hr FU S2 (0 : Int) h H locs ls hP hS (lv_sub hl [1, 0] rfl)
abbrev rm_X9_findStrokes : Room := { frames := 3, cells := 0, slots := 0, locals := 67 }
theorem c_X9_findStrokes {l : Launch} {D : va_G} {a : Nat → Nat} {g : Nat → ClassId} {S : SZ} {z : SZ} (h : f_X9_findStrokes S = some z) : MetV l D (tysWM g) (WM a g) E0 yX9_findStrokes cX9_findStrokes 4 none rm_X9_findStrokes [.ref (a 0)] (em S) (em z) := mk_v (WM_same a g) (by decide) (em z) (Nat.le_of_ble_eq_true rfl) (fun p e s m args below meth c A Q hc hE hr => t_X9_findStrokes (z := z) hc hr S h)
theorem k_X9_findStrokes : CalV RX9 yX9_findStrokes cX9_findStrokes 4 none rm_X9_findStrokes 0 := ⟨q_595, q_596, q_5, q_597, by decide +kernel, rfl, rfl⟩
set_option maxHeartbeats 4000000 in
set_option maxRecDepth 100000 in
theorem t_X9_findAll_p32 {z : SZ} (hc : Cx p R s m args c D (tysWM g) A (WM a g) cX9_findAll 3 RX9 7 184) (hr : Rtv p l e R s m args below meth c Q D A (WM a g) cX9_findAll (em z)) {k20 : SZ → Int → Option (SZ)} (K20 : ∀ (S : SZ) (v1 : Int), k20 S v1 = some z → Go p l e R s m args below meth c Q D A (WM a g) 3 (em S) 20 [(0, .ref (a 0)), (1, .int (Int32.ofInt v1))] []) : ∀ (fu : Nat) (S : SZ) (v1 : Int) (v2 : Int), f_X9_findAll_p32 k20 fu S v1 v2 = some z → Go p l e R s m args below meth c Q D A (WM a g) 3 (em S) 32 [(0, .ref (a 0)), (1, .int (Int32.ofInt v1)), (2, .int (Int32.ofInt v2))] [] := by
  obtain ⟨⟨hx, hb, hml, hown, hts⟩, -, -, -, hnf, hno⟩ := id hc
  intro fu
  induction fu with
  | zero =>
    intro S v1 v2 h
    rw [f_X9_findAll_p32] at h
    cases h
  | succ fu ih =>
    intro S v1 v2 h H locs ls hP hS hl
    rw [f_X9_findAll_p32] at h
    refine lv_iload_n hx hb dX9_findAll_32 rfl (lv_at hl 2 rfl) ?_
    refine lv_aload_n hx hb dX9_findAll_33 rfl (lv_at hl 0 rfl) ?_
    refine gzWM_HiddenEdgesModel_points hc hP q_154 dX9_findAll_34 ?_
    obtain ⟨h1, h⟩ := chk_at h
    obtain ⟨h2, h⟩ := chk_at h
    refine z_icmp_ge (tgt := 52) hx hb h1 h2 dX9_findAll_37 (by decide) (fun hq => ?_) (fun hq => ?_)
    · replace h := if_yes hq h
      obtain ⟨x3, ex3⟩ : ∃ y : Int, y = v1 + (1 : Int) := ⟨_, rfl⟩
      replace h := olet_at ex3 h
      refine lv_iinc (v := Int32.ofInt x3) (lv' := [(1, .int (Int32.ofInt x3)), (0, .ref (a 0)), (2, .int (Int32.ofInt v2))]) hx hb dX9_findAll_52 hl (k := 1) rfl (by rw [ex3, Int32.ofInt_add]) (by decide) rfl (fun ls hl => ?_)
      refine lv_goto (tgt := 20) hx hb dX9_findAll_55 (by decide) ?_
      exact K20 S x3 h H locs ls hP hS (lv_sub hl [1, 0] rfl)
    · replace h := if_no hq h
      refine lv_aload_n hx hb dX9_findAll_40 rfl (lv_at hl 0 rfl) ?_
      refine lv_iload_n hx hb dX9_findAll_41 rfl (lv_at hl 1 rfl) ?_
      refine lv_iload_n hx hb dX9_findAll_42 rfl (lv_at hl 2 rfl) ?_
      obtain ⟨S4, hk5, h⟩ := ob1_at h
      refine cl_Vv (As := [.int (Int32.ofInt v1), .int (Int32.ofInt v2)]) (rest := []) hc k_X9_findEdge q_544 (c_X9_findEdge hk5) hP hS (WM_0 a g (em S)) rfl rfl rfl hl (Nat.le_of_ble_eq_true rfl) dX9_findAll_43 (Nat.le_of_ble_eq_true rfl) (Nat.le_of_ble_eq_true rfl) rfl (fun H locs hP hS => ?_)
      obtain ⟨x6, ex6⟩ : ∃ y : Int, y = v2 + (1 : Int) := ⟨_, rfl⟩
      replace h := olet_at ex6 h
      refine lv_iinc (v := Int32.ofInt x6) (lv' := [(2, .int (Int32.ofInt x6)), (0, .ref (a 0)), (1, .int (Int32.ofInt v1))]) hx hb dX9_findAll_46 hl (k := 2) rfl (by rw [ex6, Int32.ofInt_add]) (by decide) rfl (fun ls hl => ?_)
      refine lv_goto (tgt := 32) hx hb dX9_findAll_49 (by decide) ?_
      exact ih S4 v1 x6 h H locs ls hP hS (lv_sub hl [1, 2, 0] rfl)
set_option maxHeartbeats 4000000 in
set_option maxRecDepth 100000 in
theorem t_X9_findAll_p20 {z : SZ} (hc : Cx p R s m args c D (tysWM g) A (WM a g) cX9_findAll 3 RX9 7 184) (hr : Rtv p l e R s m args below meth c Q D A (WM a g) cX9_findAll (em z)) : ∀ (fu : Nat) (S : SZ) (v1 : Int), f_X9_findAll_p20 fu S v1 = some z → Go p l e R s m args below meth c Q D A (WM a g) 3 (em S) 20 [(0, .ref (a 0)), (1, .int (Int32.ofInt v1))] [] := by
  obtain ⟨⟨hx, hb, hml, hown, hts⟩, -, -, -, hnf, hno⟩ := id hc
  intro fu
  induction fu with
  | zero =>
    intro S v1 h
    rw [f_X9_findAll_p20] at h
    cases h
  | succ fu ih =>
    intro S v1 h H locs ls hP hS hl
    rw [f_X9_findAll_p20] at h
    refine lv_iload_n hx hb dX9_findAll_20 rfl (lv_at hl 1 rfl) ?_
    refine lv_aload_n hx hb dX9_findAll_21 rfl (lv_at hl 0 rfl) ?_
    refine gzWM_HiddenEdgesModel_points hc hP q_154 dX9_findAll_22 ?_
    obtain ⟨h1, h⟩ := chk_at h
    obtain ⟨h2, h⟩ := chk_at h
    refine z_icmp_ge (tgt := 58) hx hb h1 h2 dX9_findAll_25 (by decide) (fun hq => ?_) (fun hq => ?_)
    · replace h := if_yes hq h
      refine lv_aload_n hx hb dX9_findAll_58 rfl (lv_at hl 0 rfl) ?_
      obtain ⟨S3, hk4, h⟩ := ob1_at h
      refine cl_Vv (As := []) (rest := []) hc k_X9_findStrokes q_594 (c_X9_findStrokes hk4) hP hS (WM_0 a g (em S)) rfl rfl rfl hl (Nat.le_of_ble_eq_true rfl) dX9_findAll_59 (Nat.le_of_ble_eq_true rfl) (Nat.le_of_ble_eq_true rfl) rfl (fun H locs hP hS => ?_)
      obtain rfl := Option.some.inj h
      exact hr _ _ _ _ dX9_findAll_62 hP hS
    · replace h := if_no hq h
      refine lv_iload_n hx hb dX9_findAll_28 rfl (lv_at hl 1 rfl) ?_
      refine lv_iconst (v := Int32.ofInt (1 : Int)) hx hb dX9_findAll_29 (by decide) ?_
      refine z_iadd hx hb dX9_findAll_30 ?_
      refine z_topi (fun x5 ex5 => ?_)
      replace h := olet_at ex5 h
      refine lv_istore_n (lv' := [(2, .int (Int32.ofInt x5)), (0, .ref (a 0)), (1, .int (Int32.ofInt v1))]) hx hb dX9_findAll_31 rfl hl (by decide) rfl (fun ls hl => ?_)
      exact t_X9_findAll_p32 hc hr ih FU S v1 x5 h H locs ls hP hS (lv_sub hl [1, 2, 0] rfl)
set_option maxHeartbeats 4000000 in
set_option maxRecDepth 100000 in
theorem t_X9_findAll {z : SZ} (hc : Cx p R s m args c D (tysWM g) A (WM a g) cX9_findAll 3 RX9 7 184) (hr : Rtv p l e R s m args below meth c Q D A (WM a g) cX9_findAll (em z)) : ∀ (S : SZ), f_X9_findAll S = some z → Go p l e R s m args below meth c Q D A (WM a g) 3 (em S) 0 [(0, .ref (a 0))] [] := by
  obtain ⟨⟨hx, hb, hml, hown, hts⟩, -, -, -, hnf, hno⟩ := id hc
  intro S h H locs ls hP hS hl
  rw [f_X9_findAll] at h
  replace hl : lv_has ls 3 [(0, .ref (a 0))] := hl
  refine lv_aload_n hx hb dX9_findAll_0 rfl (lv_at hl 0 rfl) ?_
  refine gzWM_HiddenEdgesModel_isFound hc hP q_169 dX9_findAll_1 ?_
  obtain ⟨h1, h⟩ := chk_at h
  refine z_if_eq (tgt := 8) hx hb h1 dX9_findAll_4 (by decide) (fun hq => ?_) (fun hq => ?_)
  · replace h := if_yes hq h
    refine lv_aload_n hx hb dX9_findAll_8 rfl (lv_at hl 0 rfl) ?_
    refine lv_iconst (v := Int32.ofInt (1 : Int)) hx hb dX9_findAll_9 (by decide) ?_
    refine pzWM_HiddenEdgesModel_isFound hc hP hS (Or.inr rfl) q_169 dX9_findAll_10 (fun H locs hP hS => ?_)
    obtain ⟨S2, eS2⟩ : ∃ z, z = ui S 6 (1 : Int) := ⟨_, rfl⟩
    replace h := olet_at eS2 h
    rw [← eS2] at hP
    refine lv_aload_n hx hb dX9_findAll_13 rfl (lv_at hl 0 rfl) ?_
    refine lv_iconst (v := Int32.ofInt (0 : Int)) hx hb dX9_findAll_14 (by decide) ?_
    refine pzWM_HiddenEdgesModel_edges hc hP hS q_539 dX9_findAll_15 (fun H locs hP hS => ?_)
    obtain ⟨S3, eS3⟩ : ∃ z, z = ui S2 7 (0 : Int) := ⟨_, rfl⟩
    replace h := olet_at eS3 h
    rw [← eS3] at hP
    refine lv_iconst (v := Int32.ofInt (0 : Int)) hx hb dX9_findAll_18 (by decide) ?_
    refine lv_istore_n (lv' := [(1, .int (Int32.ofInt (0 : Int))), (0, .ref (a 0))]) hx hb dX9_findAll_19 rfl hl (by decide) rfl (fun ls hl => ?_)
    exact t_X9_findAll_p20 hc hr FU S3 (0 : Int) h H locs ls hP hS (lv_sub hl [1, 0] rfl)
  · replace h := if_no hq h
    obtain rfl := Option.some.inj h
    exact hr _ _ _ _ dX9_findAll_7 hP hS
abbrev rm_X9_findAll : Room := { frames := 7, cells := 0, slots := 0, locals := 184 }
theorem c_X9_findAll {l : Launch} {D : va_G} {a : Nat → Nat} {g : Nat → ClassId} {S : SZ} {z : SZ} (h : f_X9_findAll S = some z) : MetV l D (tysWM g) (WM a g) E0 yX9_findAll cX9_findAll 3 none rm_X9_findAll [.ref (a 0)] (em S) (em z) := mk_v (WM_same a g) (by decide) (em z) (Nat.le_of_ble_eq_true rfl) (fun p e s m args below meth c A Q hc hE hr => t_X9_findAll (z := z) hc hr S h)
theorem k_X9_findAll : CalV RX9 yX9_findAll cX9_findAll 3 none rm_X9_findAll 0 := ⟨q_541, q_542, q_5, q_543, by decide +kernel, rfl, rfl⟩
set_option maxHeartbeats 4000000 in
set_option maxRecDepth 100000 in
theorem t_X9_hidersOf_p69 {z : SZ × Int} (hc : Cx p R s m args c D (tysWM g) A (WM a g) cX9_hidersOf 6 RX9 4 106) (hr : Rti p l e R s m args below meth c Q D A (WM a g) cX9_hidersOf (em z.1, Int32.ofInt z.2)) {k4 : SZ → Int → Int → Int → Option (SZ × Int)} (K4 : ∀ (S : SZ) (v1 : Int) (v2 : Int) (v3 : Int), k4 S v1 v2 v3 = some z → Go p l e R s m args below meth c Q D A (WM a g) 6 (em S) 4 [(0, .ref (a 0)), (1, .int (Int32.ofInt v1)), (2, .int (Int32.ofInt v2)), (3, .int (Int32.ofInt v3))] []) : ∀ (S : SZ) (v1 : Int) (v2 : Int) (v3 : Int) (v4 : Int), f_X9_hidersOf_p69 k4 S v1 v2 v3 v4 = some z → Go p l e R s m args below meth c Q D A (WM a g) 6 (em S) 69 [(0, .ref (a 0)), (1, .int (Int32.ofInt v1)), (2, .int (Int32.ofInt v2)), (3, .int (Int32.ofInt v3)), (4, .int (Int32.ofInt v4))] [] := by
  obtain ⟨⟨hx, hb, hml, hown, hts⟩, -, -, -, hnf, hno⟩ := id hc
  intro S v1 v2 v3 v4 h H locs ls hP hS hl
  rw [f_X9_hidersOf_p69] at h
  refine lv_iload_n hx hb dX9_hidersOf_69 rfl (lv_at hl 2 rfl) ?_
  refine lv_iload hx hb dX9_hidersOf_70 (lv_at hl 4 rfl) ?_
  obtain ⟨h1, h⟩ := chk_at h
  refine z_if_eq (tgt := 79) hx hb h1 dX9_hidersOf_72 (by decide) (fun hq => ?_) (fun hq => ?_)
  · replace h := if_yes hq h
    refine lv_iconst (v := Int32.ofInt (0 : Int)) hx hb dX9_hidersOf_79 (by decide) ?_
    refine z_iadd hx hb dX9_hidersOf_80 ?_
    refine z_topi (fun x2 ex2 => ?_)
    replace h := olet_at ex2 h
    refine lv_istore_n (lv' := [(2, .int (Int32.ofInt x2)), (0, .ref (a 0)), (1, .int (Int32.ofInt v1)), (3, .int (Int32.ofInt v3)), (4, .int (Int32.ofInt v4))]) hx hb dX9_hidersOf_81 rfl hl (by decide) rfl (fun ls hl => ?_)
    obtain ⟨x3, ex3⟩ : ∃ y : Int, y = v3 + (1 : Int) := ⟨_, rfl⟩
    replace h := olet_at ex3 h
    refine lv_iinc (v := Int32.ofInt x3) (lv' := [(3, .int (Int32.ofInt x3)), (2, .int (Int32.ofInt x2)), (0, .ref (a 0)), (1, .int (Int32.ofInt v1)), (4, .int (Int32.ofInt v4))]) hx hb dX9_hidersOf_82 hl (k := 3) rfl (by rw [ex3, Int32.ofInt_add]) (by decide) rfl (fun ls hl => ?_)
    refine lv_goto (tgt := 4) hx hb dX9_hidersOf_85 (by decide) ?_
    exact K4 S v1 x2 x3 h H locs ls hP hS (lv_sub hl [2, 3, 1, 0] rfl)
  · replace h := if_no hq h
    refine lv_iconst (v := Int32.ofInt (1 : Int)) hx hb dX9_hidersOf_75 (by decide) ?_
    refine lv_goto (tgt := 80) hx hb dX9_hidersOf_76 (by decide) ?_
    refine z_iadd hx hb dX9_hidersOf_80 ?_
    refine z_topi (fun x4 ex4 => ?_)
    replace h := olet_at ex4 h
    refine lv_istore_n (lv' := [(2, .int (Int32.ofInt x4)), (0, .ref (a 0)), (1, .int (Int32.ofInt v1)), (3, .int (Int32.ofInt v3)), (4, .int (Int32.ofInt v4))]) hx hb dX9_hidersOf_81 rfl hl (by decide) rfl (fun ls hl => ?_)
    obtain ⟨x5, ex5⟩ : ∃ y : Int, y = v3 + (1 : Int) := ⟨_, rfl⟩
    replace h := olet_at ex5 h
    refine lv_iinc (v := Int32.ofInt x5) (lv' := [(3, .int (Int32.ofInt x5)), (2, .int (Int32.ofInt x4)), (0, .ref (a 0)), (1, .int (Int32.ofInt v1)), (4, .int (Int32.ofInt v4))]) hx hb dX9_hidersOf_82 hl (k := 3) rfl (by rw [ex5, Int32.ofInt_add]) (by decide) rfl (fun ls hl => ?_)
    refine lv_goto (tgt := 4) hx hb dX9_hidersOf_85 (by decide) ?_
    exact K4 S v1 x4 x5 h H locs ls hP hS (lv_sub hl [2, 3, 1, 0] rfl)
set_option maxHeartbeats 4000000 in
set_option maxRecDepth 100000 in
theorem t_X9_hidersOf_p32 {z : SZ × Int} (hc : Cx p R s m args c D (tysWM g) A (WM a g) cX9_hidersOf 6 RX9 4 106) (hr : Rti p l e R s m args below meth c Q D A (WM a g) cX9_hidersOf (em z.1, Int32.ofInt z.2)) {k4 : SZ → Int → Int → Int → Option (SZ × Int)} (K4 : ∀ (S : SZ) (v1 : Int) (v2 : Int) (v3 : Int), k4 S v1 v2 v3 = some z → Go p l e R s m args below meth c Q D A (WM a g) 6 (em S) 4 [(0, .ref (a 0)), (1, .int (Int32.ofInt v1)), (2, .int (Int32.ofInt v2)), (3, .int (Int32.ofInt v3))] []) : ∀ (fu : Nat) (S : SZ) (v1 : Int) (v2 : Int) (v3 : Int) (v4 : Int) (v5 : Int), f_X9_hidersOf_p32 k4 fu S v1 v2 v3 v4 v5 = some z → Go p l e R s m args below meth c Q D A (WM a g) 6 (em S) 32 [(0, .ref (a 0)), (1, .int (Int32.ofInt v1)), (2, .int (Int32.ofInt v2)), (3, .int (Int32.ofInt v3)), (4, .int (Int32.ofInt v4)), (5, .int (Int32.ofInt v5))] [] := by
  obtain ⟨⟨hx, hb, hml, hown, hts⟩, -, -, -, hnf, hno⟩ := id hc
  intro fu
  induction fu with
  | zero =>
    intro S v1 v2 v3 v4 v5 h
    rw [f_X9_hidersOf_p32] at h
    cases h
  | succ fu ih =>
    intro S v1 v2 v3 v4 v5 h H locs ls hP hS hl
    rw [f_X9_hidersOf_p32] at h
    refine lv_iload hx hb dX9_hidersOf_32 (lv_at hl 5 rfl) ?_
    refine lv_iconst (v := Int32.ofInt (4 : Int)) hx hb dX9_hidersOf_34 (by decide) ?_
    obtain ⟨h1, h⟩ := chk_at h
    refine z_icmp_ge (tgt := 69) hx hb h1 (by decide) dX9_hidersOf_35 (by decide) (fun hq => ?_) (fun hq => ?_)
    · replace h := if_yes hq h
      exact t_X9_hidersOf_p69 hc hr K4 S v1 v2 v3 v4 h H locs ls hP hS (lv_sub hl [0, 1, 2, 3, 4] rfl)
    · replace h := if_no hq h
      refine lv_iload hx hb dX9_hidersOf_38 (lv_at hl 4 rfl) ?_
      obtain ⟨h2, h⟩ := chk_at h
      refine z_if_eq (tgt := 69) hx hb h2 dX9_hidersOf_40 (by decide) (fun hq => ?_) (fun hq => ?_)
      · replace h := if_yes hq h
        exact t_X9_hidersOf_p69 hc hr K4 S v1 v2 v3 v4 h H locs ls hP hS (lv_sub hl [0, 1, 2, 3, 4] rfl)
      · replace h := if_no hq h
        refine lv_aload_n hx hb dX9_hidersOf_43 rfl (lv_at hl 0 rfl) ?_
        refine lv_iload_n hx hb dX9_hidersOf_44 rfl (lv_at hl 3 rfl) ?_
        refine lv_iload hx hb dX9_hidersOf_45 (lv_at hl 5 rfl) ?_
        refine lv_iload_n hx hb dX9_hidersOf_47 rfl (lv_at hl 1 rfl) ?_
        obtain ⟨S3, x5, hk4, h⟩ := ob2_at h
        refine cl_Vl (As := [.int (Int32.ofInt v3), .int (Int32.ofInt v5), .int (Int32.ofInt v1)]) (rest := []) hc k_X9_against q_586 (c_X9_against hk4) hP hS (WM_0 a g (em S)) rfl rfl rfl hl (Nat.le_of_ble_eq_true rfl) dX9_hidersOf_48 (Nat.le_of_ble_eq_true rfl) (Nat.le_of_ble_eq_true rfl) rfl (fun H locs hP hS => ?_)
        refine lv_lconst (v := Int64.ofInt (0 : Int)) hx hb dX9_hidersOf_51 (by decide) ?_
        refine W.lcmp hx hb dX9_hidersOf_52 ?_
        obtain ⟨h6, h⟩ := chk_at h
        refine zc_if_le (tgt := 60) hx hb h6 (by decide) dX9_hidersOf_53 (by decide) (fun hq => ?_) (fun hq => ?_)
        · replace h := if_yes hq h
          refine lv_iconst (v := Int32.ofInt (0 : Int)) hx hb dX9_hidersOf_60 (by decide) ?_
          refine lv_istore (lv' := [(4, .int (Int32.ofInt (0 : Int))), (0, .ref (a 0)), (1, .int (Int32.ofInt v1)), (2, .int (Int32.ofInt v2)), (3, .int (Int32.ofInt v3)), (5, .int (Int32.ofInt v5))]) hx hb dX9_hidersOf_61 hl (by decide) rfl (fun ls hl => ?_)
          obtain ⟨x7, ex7⟩ : ∃ y : Int, y = v5 + (1 : Int) := ⟨_, rfl⟩
          replace h := olet_at ex7 h
          refine lv_iinc (v := Int32.ofInt x7) (lv' := [(5, .int (Int32.ofInt x7)), (4, .int (Int32.ofInt (0 : Int))), (0, .ref (a 0)), (1, .int (Int32.ofInt v1)), (2, .int (Int32.ofInt v2)), (3, .int (Int32.ofInt v3))]) hx hb dX9_hidersOf_63 hl (k := 5) rfl (by rw [ex7, Int32.ofInt_add]) (by decide) rfl (fun ls hl => ?_)
          refine lv_goto (tgt := 32) hx hb dX9_hidersOf_66 (by decide) ?_
          exact ih S3 v1 v2 v3 (0 : Int) x7 h H locs ls hP hS (lv_sub hl [2, 3, 4, 5, 1, 0] rfl)
        · replace h := if_no hq h
          refine lv_iconst (v := Int32.ofInt (1 : Int)) hx hb dX9_hidersOf_56 (by decide) ?_
          refine lv_goto (tgt := 61) hx hb dX9_hidersOf_57 (by decide) ?_
          refine lv_istore (lv' := [(4, .int (Int32.ofInt (1 : Int))), (0, .ref (a 0)), (1, .int (Int32.ofInt v1)), (2, .int (Int32.ofInt v2)), (3, .int (Int32.ofInt v3)), (5, .int (Int32.ofInt v5))]) hx hb dX9_hidersOf_61 hl (by decide) rfl (fun ls hl => ?_)
          obtain ⟨x8, ex8⟩ : ∃ y : Int, y = v5 + (1 : Int) := ⟨_, rfl⟩
          replace h := olet_at ex8 h
          refine lv_iinc (v := Int32.ofInt x8) (lv' := [(5, .int (Int32.ofInt x8)), (4, .int (Int32.ofInt (1 : Int))), (0, .ref (a 0)), (1, .int (Int32.ofInt v1)), (2, .int (Int32.ofInt v2)), (3, .int (Int32.ofInt v3))]) hx hb dX9_hidersOf_63 hl (k := 5) rfl (by rw [ex8, Int32.ofInt_add]) (by decide) rfl (fun ls hl => ?_)
          refine lv_goto (tgt := 32) hx hb dX9_hidersOf_66 (by decide) ?_
          exact ih S3 v1 v2 v3 (1 : Int) x8 h H locs ls hP hS (lv_sub hl [2, 3, 4, 5, 1, 0] rfl)
set_option maxHeartbeats 4000000 in
set_option maxRecDepth 100000 in
theorem t_X9_hidersOf_p4 {z : SZ × Int} (hc : Cx p R s m args c D (tysWM g) A (WM a g) cX9_hidersOf 6 RX9 4 106) (hr : Rti p l e R s m args below meth c Q D A (WM a g) cX9_hidersOf (em z.1, Int32.ofInt z.2)) : ∀ (fu : Nat) (S : SZ) (v1 : Int) (v2 : Int) (v3 : Int), f_X9_hidersOf_p4 fu S v1 v2 v3 = some z → Go p l e R s m args below meth c Q D A (WM a g) 6 (em S) 4 [(0, .ref (a 0)), (1, .int (Int32.ofInt v1)), (2, .int (Int32.ofInt v2)), (3, .int (Int32.ofInt v3))] [] := by
  obtain ⟨⟨hx, hb, hml, hown, hts⟩, -, -, -, hnf, hno⟩ := id hc
  intro fu
  induction fu with
  | zero =>
    intro S v1 v2 v3 h
    rw [f_X9_hidersOf_p4] at h
    cases h
  | succ fu ih =>
    intro S v1 v2 v3 h H locs ls hP hS hl
    rw [f_X9_hidersOf_p4] at h
    refine lv_iload_n hx hb dX9_hidersOf_4 rfl (lv_at hl 3 rfl) ?_
    refine lv_aload_n hx hb dX9_hidersOf_5 rfl (lv_at hl 0 rfl) ?_
    refine gzWM_HiddenEdgesModel_faces hc hP q_207 dX9_hidersOf_6 ?_
    obtain ⟨h1, h⟩ := chk_at h
    obtain ⟨h2, h⟩ := chk_at h
    refine z_icmp_ge (tgt := 88) hx hb h1 h2 dX9_hidersOf_9 (by decide) (fun hq => ?_) (fun hq => ?_)
    · replace h := if_yes hq h
      refine lv_iload_n hx hb dX9_hidersOf_88 rfl (lv_at hl 2 rfl) ?_
      obtain rfl := Option.some.inj h
      exact hr _ _ _ _ dX9_hidersOf_89 hP hS
    · replace h := if_no hq h
      refine lv_aload_n hx hb dX9_hidersOf_12 rfl (lv_at hl 0 rfl) ?_
      refine lv_iload_n hx hb dX9_hidersOf_13 rfl (lv_at hl 3 rfl) ?_
      obtain ⟨S3, x5, hk4, h⟩ := ob2_at h
      refine cl_Vl (As := [.int (Int32.ofInt v3)]) (rest := []) hc k_X9_turnOf q_571 (c_X9_turnOf hk4) hP hS (WM_0 a g (em S)) rfl rfl rfl hl (Nat.le_of_ble_eq_true rfl) dX9_hidersOf_14 (Nat.le_of_ble_eq_true rfl) (Nat.le_of_ble_eq_true rfl) rfl (fun H locs hP hS => ?_)
      refine lv_lconst (v := Int64.ofInt (0 : Int)) hx hb dX9_hidersOf_17 (by decide) ?_
      refine W.lcmp hx hb dX9_hidersOf_18 ?_
      obtain ⟨h6, h⟩ := chk_at h
      refine zc_if_eq (tgt := 26) hx hb h6 (by decide) dX9_hidersOf_19 (by decide) (fun hq => ?_) (fun hq => ?_)
      · replace h := if_yes hq h
        refine lv_iconst (v := Int32.ofInt (0 : Int)) hx hb dX9_hidersOf_26 (by decide) ?_
        refine lv_istore (lv' := [(4, .int (Int32.ofInt (0 : Int))), (0, .ref (a 0)), (1, .int (Int32.ofInt v1)), (2, .int (Int32.ofInt v2)), (3, .int (Int32.ofInt v3))]) hx hb dX9_hidersOf_27 hl (by decide) rfl (fun ls hl => ?_)
        refine lv_iconst (v := Int32.ofInt (0 : Int)) hx hb dX9_hidersOf_29 (by decide) ?_
        refine lv_istore (lv' := [(5, .int (Int32.ofInt (0 : Int))), (4, .int (Int32.ofInt (0 : Int))), (0, .ref (a 0)), (1, .int (Int32.ofInt v1)), (2, .int (Int32.ofInt v2)), (3, .int (Int32.ofInt v3))]) hx hb dX9_hidersOf_30 hl (by decide) rfl (fun ls hl => ?_)
        exact t_X9_hidersOf_p32 hc hr ih FU S3 v1 v2 v3 (0 : Int) (0 : Int) h H locs ls hP hS (lv_sub hl [2, 3, 4, 5, 1, 0] rfl)
      · replace h := if_no hq h
        refine lv_iconst (v := Int32.ofInt (1 : Int)) hx hb dX9_hidersOf_22 (by decide) ?_
        refine lv_goto (tgt := 27) hx hb dX9_hidersOf_23 (by decide) ?_
        refine lv_istore (lv' := [(4, .int (Int32.ofInt (1 : Int))), (0, .ref (a 0)), (1, .int (Int32.ofInt v1)), (2, .int (Int32.ofInt v2)), (3, .int (Int32.ofInt v3))]) hx hb dX9_hidersOf_27 hl (by decide) rfl (fun ls hl => ?_)
        refine lv_iconst (v := Int32.ofInt (0 : Int)) hx hb dX9_hidersOf_29 (by decide) ?_
        refine lv_istore (lv' := [(5, .int (Int32.ofInt (0 : Int))), (4, .int (Int32.ofInt (1 : Int))), (0, .ref (a 0)), (1, .int (Int32.ofInt v1)), (2, .int (Int32.ofInt v2)), (3, .int (Int32.ofInt v3))]) hx hb dX9_hidersOf_30 hl (by decide) rfl (fun ls hl => ?_)
        exact t_X9_hidersOf_p32 hc hr ih FU S3 v1 v2 v3 (1 : Int) (0 : Int) h H locs ls hP hS (lv_sub hl [2, 3, 4, 5, 1, 0] rfl)
set_option maxHeartbeats 4000000 in
set_option maxRecDepth 100000 in
theorem t_X9_hidersOf {z : SZ × Int} (hc : Cx p R s m args c D (tysWM g) A (WM a g) cX9_hidersOf 6 RX9 4 106) (hr : Rti p l e R s m args below meth c Q D A (WM a g) cX9_hidersOf (em z.1, Int32.ofInt z.2)) : ∀ (S : SZ) (v1 : Int), f_X9_hidersOf S v1 = some z → Go p l e R s m args below meth c Q D A (WM a g) 6 (em S) 0 [(0, .ref (a 0)), (1, .int (Int32.ofInt v1))] [] := by
  obtain ⟨⟨hx, hb, hml, hown, hts⟩, -, -, -, hnf, hno⟩ := id hc
  intro S v1 h H locs ls hP hS hl
  rw [f_X9_hidersOf] at h
  replace hl : lv_has ls 6 [(0, .ref (a 0)), (1, .int (Int32.ofInt v1))] := hl
  refine lv_iconst (v := Int32.ofInt (0 : Int)) hx hb dX9_hidersOf_0 (by decide) ?_
  refine lv_istore_n (lv' := [(2, .int (Int32.ofInt (0 : Int))), (0, .ref (a 0)), (1, .int (Int32.ofInt v1))]) hx hb dX9_hidersOf_1 rfl hl (by decide) rfl (fun ls hl => ?_)
  refine lv_iconst (v := Int32.ofInt (0 : Int)) hx hb dX9_hidersOf_2 (by decide) ?_
  refine lv_istore_n (lv' := [(3, .int (Int32.ofInt (0 : Int))), (2, .int (Int32.ofInt (0 : Int))), (0, .ref (a 0)), (1, .int (Int32.ofInt v1))]) hx hb dX9_hidersOf_3 rfl hl (by decide) rfl (fun ls hl => ?_)
  exact t_X9_hidersOf_p4 hc hr FU S v1 (0 : Int) (0 : Int) h H locs ls hP hS (lv_sub hl [2, 3, 1, 0] rfl)
abbrev rm_X9_hidersOf : Room := { frames := 4, cells := 0, slots := 0, locals := 106 }
theorem c_X9_hidersOf {l : Launch} {D : va_G} {a : Nat → Nat} {g : Nat → ClassId} {S : SZ} {v1 : Int} {Z1 : SZ} {r1 : Int} (h : f_X9_hidersOf S v1 = some (Z1, r1)) : MetI l D (tysWM g) (WM a g) E0 yX9_hidersOf cX9_hidersOf 6 (some .int) rm_X9_hidersOf [.ref (a 0), .int (Int32.ofInt v1)] (em S) (em Z1, Int32.ofInt r1) := mk_i (WM_same a g) (by decide) (em Z1, Int32.ofInt r1) (Nat.le_of_ble_eq_true rfl) (fun p e s m args below meth c A Q hc hE hr => t_X9_hidersOf (z := (Z1, r1)) hc hr S v1 h)
theorem k_X9_hidersOf : CalV RX9 yX9_hidersOf cX9_hidersOf 6 (some .int) rm_X9_hidersOf 1 := ⟨q_625, q_626, q_5, q_627, by decide +kernel, rfl, rfl⟩
set_option maxHeartbeats 4000000 in
set_option maxRecDepth 100000 in
theorem t_X9_ofPoint_p19 {z : SZ × Int} (hc : Cx p R s m args c D (tysWM g) A (WM a g) cX9_ofPoint 5 RX9 8 206) (hr : Rti p l e R s m args below meth c Q D A (WM a g) cX9_ofPoint (em z.1, Int32.ofInt z.2)) : ∀ (fu : Nat) (S : SZ) (v1 : Int) (v2 : Int) (v3 : Int) (v4 : Int), f_X9_ofPoint_p19 fu S v1 v2 v3 v4 = some z → Go p l e R s m args below meth c Q D A (WM a g) 5 (em S) 19 [(0, .ref (a 0)), (1, .int (Int32.ofInt v1)), (2, .int (Int32.ofInt v2)), (3, .int (Int32.ofInt v3)), (4, .int (Int32.ofInt v4))] [] := by
  obtain ⟨⟨hx, hb, hml, hown, hts⟩, -, -, -, hnf, hno⟩ := id hc
  intro fu
  induction fu with
  | zero =>
    intro S v1 v2 v3 v4 h
    rw [f_X9_ofPoint_p19] at h
    cases h
  | succ fu ih =>
    intro S v1 v2 v3 v4 h H locs ls hP hS hl
    rw [f_X9_ofPoint_p19] at h
    refine lv_iload hx hb dX9_ofPoint_19 (lv_at hl 4 rfl) ?_
    refine lv_aload_n hx hb dX9_ofPoint_21 rfl (lv_at hl 0 rfl) ?_
    refine gzWM_HiddenEdgesModel_edges hc hP q_539 dX9_ofPoint_22 ?_
    obtain ⟨h1, h⟩ := chk_at h
    obtain ⟨h2, h⟩ := chk_at h
    refine z_icmp_ge (tgt := 64) hx hb h1 h2 dX9_ofPoint_25 (by decide) (fun hq => ?_) (fun hq => ?_)
    · replace h := if_yes hq h
      refine lv_iload_n hx hb dX9_ofPoint_64 rfl (lv_at hl 2 rfl) ?_
      obtain ⟨h3, h⟩ := chk_at h
      by_cases hsw : v2 < 0 ∨ 4 < v2
      · replace h := if_yes hsw h
        refine lv_tableOut (tgt := 138) hx hb dX9_ofPoint_65 (by rw [o32 h3]; exact hsw) (by decide) ?_
        refine lv_bipush (v := Int32.ofInt (-2 : Int)) hx hb dX9_ofPoint_138 (by decide) ?_
        obtain rfl := Option.some.inj h
        exact hr _ _ _ _ dX9_ofPoint_140 hP hS
      replace h := if_no hsw h
      by_cases hs0 : v2 = 0
      · replace h := if_yes hs0 h
        refine lv_tableIn (off := 35) (tgt := 100) hx hb dX9_ofPoint_65 (by rw [o32 h3]; exact fun h9 => hsw (Or.inl h9)) (by rw [o32 h3]; exact fun h9 => hsw (Or.inr h9)) (by rw [o32 h3, hs0]; rfl) (by decide) ?_
        refine lv_aload_n hx hb dX9_ofPoint_100 rfl (lv_at hl 0 rfl) ?_
        refine gfWM_HiddenEdgesModel_xOf hc hP q_99 dX9_ofPoint_101 ?_
        refine lv_iload_n hx hb dX9_ofPoint_104 rfl (lv_at hl 1 rfl) ?_
        obtain ⟨h4, h⟩ := chk_at h
        refine azWM_HiddenEdgesModel_xOf hc hP h4 dX9_ofPoint_105 ?_
        refine lv_bipush (v := Int32.ofInt (10 : Int)) hx hb dX9_ofPoint_106 (by decide) ?_
        refine z_iadd hx hb dX9_ofPoint_108 ?_
        obtain rfl := Option.some.inj h
        exact hr _ _ _ _ dX9_ofPoint_109 hP hS
      replace h := if_no hs0 h
      by_cases hs1 : v2 = 1
      · replace h := if_yes hs1 h
        refine lv_tableIn (off := 45) (tgt := 110) hx hb dX9_ofPoint_65 (by rw [o32 h3]; exact fun h9 => hsw (Or.inl h9)) (by rw [o32 h3]; exact fun h9 => hsw (Or.inr h9)) (by rw [o32 h3, hs1]; rfl) (by decide) ?_
        refine lv_aload_n hx hb dX9_ofPoint_110 rfl (lv_at hl 0 rfl) ?_
        refine gfWM_HiddenEdgesModel_yOf hc hP q_100 dX9_ofPoint_111 ?_
        refine lv_iload_n hx hb dX9_ofPoint_114 rfl (lv_at hl 1 rfl) ?_
        obtain ⟨h5, h⟩ := chk_at h
        refine azWM_HiddenEdgesModel_yOf hc hP h5 dX9_ofPoint_115 ?_
        refine lv_bipush (v := Int32.ofInt (10 : Int)) hx hb dX9_ofPoint_116 (by decide) ?_
        refine z_iadd hx hb dX9_ofPoint_118 ?_
        obtain rfl := Option.some.inj h
        exact hr _ _ _ _ dX9_ofPoint_119 hP hS
      replace h := if_no hs1 h
      by_cases hs2 : v2 = 2
      · replace h := if_yes hs2 h
        refine lv_tableIn (off := 55) (tgt := 120) hx hb dX9_ofPoint_65 (by rw [o32 h3]; exact fun h9 => hsw (Or.inl h9)) (by rw [o32 h3]; exact fun h9 => hsw (Or.inr h9)) (by rw [o32 h3, hs2]; rfl) (by decide) ?_
        refine lv_aload_n hx hb dX9_ofPoint_120 rfl (lv_at hl 0 rfl) ?_
        refine gfWM_HiddenEdgesModel_zOf hc hP q_101 dX9_ofPoint_121 ?_
        refine lv_iload_n hx hb dX9_ofPoint_124 rfl (lv_at hl 1 rfl) ?_
        obtain ⟨h6, h⟩ := chk_at h
        refine azWM_HiddenEdgesModel_zOf hc hP h6 dX9_ofPoint_125 ?_
        refine lv_bipush (v := Int32.ofInt (10 : Int)) hx hb dX9_ofPoint_126 (by decide) ?_
        refine z_iadd hx hb dX9_ofPoint_128 ?_
        obtain rfl := Option.some.inj h
        exact hr _ _ _ _ dX9_ofPoint_129 hP hS
      replace h := if_no hs2 h
      by_cases hs3 : v2 = 3
      · replace h := if_yes hs3 h
        refine lv_tableIn (off := 65) (tgt := 130) hx hb dX9_ofPoint_65 (by rw [o32 h3]; exact fun h9 => hsw (Or.inl h9)) (by rw [o32 h3]; exact fun h9 => hsw (Or.inr h9)) (by rw [o32 h3, hs3]; rfl) (by decide) ?_
        refine lv_aload_n hx hb dX9_ofPoint_130 rfl (lv_at hl 0 rfl) ?_
        refine lv_iload_n hx hb dX9_ofPoint_131 rfl (lv_at hl 1 rfl) ?_
        obtain ⟨S7, x9, hk8, h⟩ := ob2_at h
        refine cl_Vi (As := [.int (Int32.ofInt v1)]) (rest := []) hc k_X9_hidersOf q_624 (c_X9_hidersOf hk8) hP hS (WM_0 a g (em S)) rfl rfl rfl hl (Nat.le_of_ble_eq_true rfl) dX9_ofPoint_132 (Nat.le_of_ble_eq_true rfl) (Nat.le_of_ble_eq_true rfl) rfl (fun H locs hP hS => ?_)
        obtain rfl := Option.some.inj h
        exact hr _ _ _ _ dX9_ofPoint_135 hP hS
      replace h := if_no hs3 h
      by_cases hs4 : v2 = 4
      · replace h := if_yes hs4 h
        refine lv_tableIn (off := 71) (tgt := 136) hx hb dX9_ofPoint_65 (by rw [o32 h3]; exact fun h9 => hsw (Or.inl h9)) (by rw [o32 h3]; exact fun h9 => hsw (Or.inr h9)) (by rw [o32 h3, hs4]; rfl) (by decide) ?_
        refine lv_iload_n hx hb dX9_ofPoint_136 rfl (lv_at hl 3 rfl) ?_
        obtain rfl := Option.some.inj h
        exact hr _ _ _ _ dX9_ofPoint_137 hP hS
      replace h := if_no hs4 h
      cases h
    · replace h := if_no hq h
      refine lv_iload_n hx hb dX9_ofPoint_28 rfl (lv_at hl 3 rfl) ?_
      refine lv_aload_n hx hb dX9_ofPoint_29 rfl (lv_at hl 0 rfl) ?_
      refine gfWM_HiddenEdgesModel_edgeOne hc hP q_108 dX9_ofPoint_30 ?_
      refine lv_iload hx hb dX9_ofPoint_33 (lv_at hl 4 rfl) ?_
      obtain ⟨h10, h⟩ := chk_at h
      refine azWM_HiddenEdgesModel_edgeOne hc hP h10 dX9_ofPoint_35 ?_
      refine lv_iload_n hx hb dX9_ofPoint_36 rfl (lv_at hl 1 rfl) ?_
      obtain ⟨h11, h⟩ := chk_at h
      obtain ⟨h12, h⟩ := chk_at h
      refine z_icmp_eq (tgt := 51) hx hb h11 h12 dX9_ofPoint_37 (by decide) (fun hq => ?_) (fun hq => ?_)
      · replace h := if_yes hq h
        refine lv_iconst (v := Int32.ofInt (1 : Int)) hx hb dX9_ofPoint_51 (by decide) ?_
        refine lv_goto (tgt := 56) hx hb dX9_ofPoint_52 (by decide) ?_
        refine z_iadd hx hb dX9_ofPoint_56 ?_
        refine z_topi (fun x13 ex13 => ?_)
        replace h := olet_at ex13 h
        refine lv_istore_n (lv' := [(3, .int (Int32.ofInt x13)), (0, .ref (a 0)), (1, .int (Int32.ofInt v1)), (2, .int (Int32.ofInt v2)), (4, .int (Int32.ofInt v4))]) hx hb dX9_ofPoint_57 rfl hl (by decide) rfl (fun ls hl => ?_)
        obtain ⟨x14, ex14⟩ : ∃ y : Int, y = v4 + (1 : Int) := ⟨_, rfl⟩
        replace h := olet_at ex14 h
        refine lv_iinc (v := Int32.ofInt x14) (lv' := [(4, .int (Int32.ofInt x14)), (3, .int (Int32.ofInt x13)), (0, .ref (a 0)), (1, .int (Int32.ofInt v1)), (2, .int (Int32.ofInt v2))]) hx hb dX9_ofPoint_58 hl (k := 4) rfl (by rw [ex14, Int32.ofInt_add]) (by decide) rfl (fun ls hl => ?_)
        refine lv_goto (tgt := 19) hx hb dX9_ofPoint_61 (by decide) ?_
        exact ih S v1 v2 x13 x14 h H locs ls hP hS (lv_sub hl [2, 3, 4, 1, 0] rfl)
      · replace h := if_no hq h
        refine lv_aload_n hx hb dX9_ofPoint_40 rfl (lv_at hl 0 rfl) ?_
        refine gfWM_HiddenEdgesModel_edgeOther hc hP q_109 dX9_ofPoint_41 ?_
        refine lv_iload hx hb dX9_ofPoint_44 (lv_at hl 4 rfl) ?_
        refine azWM_HiddenEdgesModel_edgeOther hc hP h10 dX9_ofPoint_46 ?_
        refine lv_iload_n hx hb dX9_ofPoint_47 rfl (lv_at hl 1 rfl) ?_
        obtain ⟨h15, h⟩ := chk_at h
        refine z_icmp_ne (tgt := 55) hx hb h15 h12 dX9_ofPoint_48 (by decide) (fun hq => ?_) (fun hq => ?_)
        · replace h := if_no hq h
          refine lv_iconst (v := Int32.ofInt (0 : Int)) hx hb dX9_ofPoint_55 (by decide) ?_
          refine z_iadd hx hb dX9_ofPoint_56 ?_
          refine z_topi (fun x16 ex16 => ?_)
          replace h := olet_at ex16 h
          refine lv_istore_n (lv' := [(3, .int (Int32.ofInt x16)), (0, .ref (a 0)), (1, .int (Int32.ofInt v1)), (2, .int (Int32.ofInt v2)), (4, .int (Int32.ofInt v4))]) hx hb dX9_ofPoint_57 rfl hl (by decide) rfl (fun ls hl => ?_)
          obtain ⟨x17, ex17⟩ : ∃ y : Int, y = v4 + (1 : Int) := ⟨_, rfl⟩
          replace h := olet_at ex17 h
          refine lv_iinc (v := Int32.ofInt x17) (lv' := [(4, .int (Int32.ofInt x17)), (3, .int (Int32.ofInt x16)), (0, .ref (a 0)), (1, .int (Int32.ofInt v1)), (2, .int (Int32.ofInt v2))]) hx hb dX9_ofPoint_58 hl (k := 4) rfl (by rw [ex17, Int32.ofInt_add]) (by decide) rfl (fun ls hl => ?_)
          refine lv_goto (tgt := 19) hx hb dX9_ofPoint_61 (by decide) ?_
          exact ih S v1 v2 x16 x17 h H locs ls hP hS (lv_sub hl [2, 3, 4, 1, 0] rfl)
        · replace h := if_yes hq h
          refine lv_iconst (v := Int32.ofInt (1 : Int)) hx hb dX9_ofPoint_51 (by decide) ?_
          refine lv_goto (tgt := 56) hx hb dX9_ofPoint_52 (by decide) ?_
          refine z_iadd hx hb dX9_ofPoint_56 ?_
          refine z_topi (fun x18 ex18 => ?_)
          replace h := olet_at ex18 h
          refine lv_istore_n (lv' := [(3, .int (Int32.ofInt x18)), (0, .ref (a 0)), (1, .int (Int32.ofInt v1)), (2, .int (Int32.ofInt v2)), (4, .int (Int32.ofInt v4))]) hx hb dX9_ofPoint_57 rfl hl (by decide) rfl (fun ls hl => ?_)
          obtain ⟨x19, ex19⟩ : ∃ y : Int, y = v4 + (1 : Int) := ⟨_, rfl⟩
          replace h := olet_at ex19 h
          refine lv_iinc (v := Int32.ofInt x19) (lv' := [(4, .int (Int32.ofInt x19)), (3, .int (Int32.ofInt x18)), (0, .ref (a 0)), (1, .int (Int32.ofInt v1)), (2, .int (Int32.ofInt v2))]) hx hb dX9_ofPoint_58 hl (k := 4) rfl (by rw [ex19, Int32.ofInt_add]) (by decide) rfl (fun ls hl => ?_)
          refine lv_goto (tgt := 19) hx hb dX9_ofPoint_61 (by decide) ?_
          exact ih S v1 v2 x18 x19 h H locs ls hP hS (lv_sub hl [2, 3, 4, 1, 0] rfl)
set_option maxHeartbeats 4000000 in
set_option maxRecDepth 100000 in
theorem t_X9_ofPoint {z : SZ × Int} (hc : Cx p R s m args c D (tysWM g) A (WM a g) cX9_ofPoint 5 RX9 8 206) (hr : Rti p l e R s m args below meth c Q D A (WM a g) cX9_ofPoint (em z.1, Int32.ofInt z.2)) : ∀ (S : SZ) (v1 : Int) (v2 : Int), f_X9_ofPoint S v1 v2 = some z → Go p l e R s m args below meth c Q D A (WM a g) 5 (em S) 0 [(0, .ref (a 0)), (1, .int (Int32.ofInt v1)), (2, .int (Int32.ofInt v2))] [] := by
  obtain ⟨⟨hx, hb, hml, hown, hts⟩, -, -, -, hnf, hno⟩ := id hc
  intro S v1 v2 h H locs ls hP hS hl
  rw [f_X9_ofPoint] at h
  replace hl : lv_has ls 5 [(0, .ref (a 0)), (1, .int (Int32.ofInt v1)), (2, .int (Int32.ofInt v2))] := hl
  refine lv_aload_n hx hb dX9_ofPoint_0 rfl (lv_at hl 0 rfl) ?_
  refine lv_iload_n hx hb dX9_ofPoint_1 rfl (lv_at hl 1 rfl) ?_
  obtain ⟨S1, x3, hk2, h⟩ := ob2_at h
  refine cl_Vi (As := [.int (Int32.ofInt v1)]) (rest := []) hc k_X9_isPoint q_208 (c_X9_isPoint hk2) hP hS (WM_0 a g (em S)) rfl rfl rfl hl (Nat.le_of_ble_eq_true rfl) dX9_ofPoint_2 (Nat.le_of_ble_eq_true rfl) (Nat.le_of_ble_eq_true rfl) rfl (fun H locs hP hS => ?_)
  obtain ⟨h4, h⟩ := chk_at h
  refine z_if_ne (tgt := 10) hx hb h4 dX9_ofPoint_5 (by decide) (fun hq => ?_) (fun hq => ?_)
  · replace h := if_no hq h
    refine lv_aload_n hx hb dX9_ofPoint_10 rfl (lv_at hl 0 rfl) ?_
    obtain ⟨S5, hk6, h⟩ := ob1_at h
    refine cl_Vv (As := []) (rest := []) hc k_X9_findAll q_540 (c_X9_findAll hk6) hP hS (WM_0 a g (em S1)) rfl rfl rfl hl (Nat.le_of_ble_eq_true rfl) dX9_ofPoint_11 (Nat.le_of_ble_eq_true rfl) (Nat.le_of_ble_eq_true rfl) rfl (fun H locs hP hS => ?_)
    refine lv_iconst (v := Int32.ofInt (0 : Int)) hx hb dX9_ofPoint_14 (by decide) ?_
    refine lv_istore_n (lv' := [(3, .int (Int32.ofInt (0 : Int))), (0, .ref (a 0)), (1, .int (Int32.ofInt v1)), (2, .int (Int32.ofInt v2))]) hx hb dX9_ofPoint_15 rfl hl (by decide) rfl (fun ls hl => ?_)
    refine lv_iconst (v := Int32.ofInt (0 : Int)) hx hb dX9_ofPoint_16 (by decide) ?_
    refine lv_istore (lv' := [(4, .int (Int32.ofInt (0 : Int))), (3, .int (Int32.ofInt (0 : Int))), (0, .ref (a 0)), (1, .int (Int32.ofInt v1)), (2, .int (Int32.ofInt v2))]) hx hb dX9_ofPoint_17 hl (by decide) rfl (fun ls hl => ?_)
    exact t_X9_ofPoint_p19 hc hr FU S5 v1 v2 (0 : Int) (0 : Int) h H locs ls hP hS (lv_sub hl [2, 3, 4, 1, 0] rfl)
  · replace h := if_yes hq h
    refine lv_iconst (v := Int32.ofInt (-1 : Int)) hx hb dX9_ofPoint_8 (by decide) ?_
    obtain rfl := Option.some.inj h
    exact hr _ _ _ _ dX9_ofPoint_9 hP hS
abbrev rm_X9_ofPoint : Room := { frames := 8, cells := 0, slots := 0, locals := 206 }
theorem c_X9_ofPoint {l : Launch} {D : va_G} {a : Nat → Nat} {g : Nat → ClassId} {S : SZ} {v1 : Int} {v2 : Int} {Z1 : SZ} {r1 : Int} (h : f_X9_ofPoint S v1 v2 = some (Z1, r1)) : MetI l D (tysWM g) (WM a g) E0 yX9_ofPoint cX9_ofPoint 5 (some .int) rm_X9_ofPoint [.ref (a 0), .int (Int32.ofInt v1), .int (Int32.ofInt v2)] (em S) (em Z1, Int32.ofInt r1) := mk_i (WM_same a g) (by decide) (em Z1, Int32.ofInt r1) (Nat.le_of_ble_eq_true rfl) (fun p e s m args below meth c A Q hc hE hr => t_X9_ofPoint (z := (Z1, r1)) hc hr S v1 v2 h)
theorem k_X9_ofPoint : CalV RX9 yX9_ofPoint cX9_ofPoint 5 (some .int) rm_X9_ofPoint 2 := ⟨q_536, q_537, q_5, q_538, by decide +kernel, rfl, rfl⟩
end W
