section W
variable {p : Program} {l : Launch} {e : Env} {R : Room} {s : State} {m : MethodId} {args : Array Value} {below : List Frame} {meth : Method} {c : Code} {Q : State → Prop} {D : va_G} {A : Nat → Prop} {a : Nat → Nat} {g : Nat → ClassId}
set_option maxHeartbeats 4000000 in
set_option maxRecDepth 100000 in
theorem t_X9_block_p256 {z : SZ × Int} (hc : Cx p R s m args c D (tysWM g) A (WM a g) cX9_block 9 RX9 3 70) (hr : Rti p l e R s m args below meth c Q D A (WM a g) cX9_block (em z.1, Int32.ofInt z.2)) : ∀ (fu : Nat) (S : SZ) (v7 : Int) (v8 : Int), f_X9_block_p256 fu S v7 v8 = some z → Go p l e R s m args below meth c Q D A (WM a g) 9 (em S) 256 [(0, .ref (a 0)), (7, .int (Int32.ofInt v7)), (8, .int (Int32.ofInt v8))] [] := by
  obtain ⟨⟨hx, hb, hml, hown, hts⟩, -, -, -, hnf, hno⟩ := id hc
  intro fu
  induction fu with
  | zero =>
    intro S v7 v8 h
    rw [f_X9_block_p256] at h
    cases h
  | succ fu ih =>
    intro S v7 v8 h H locs ls hP hS hl
    rw [f_X9_block_p256] at h
    refine lv_iload hx hb dX9_block_256 (lv_at hl 2 rfl) ?_
    refine lv_bipush (v := Int32.ofInt (12 : Int)) hx hb dX9_block_258 (by decide) ?_
    obtain ⟨h1, h⟩ := chk_at h
    refine z_icmp_ge (tgt := 319) hx hb h1 (by decide) dX9_block_260 (by decide) (fun hq => ?_) (fun hq => ?_)
    · replace h := if_yes hq h
      refine lv_iload hx hb dX9_block_319 (lv_at hl 1 rfl) ?_
      obtain rfl := Option.some.inj h
      exact hr _ _ _ _ dX9_block_321 hP hS
    · replace h := if_no hq h
      refine lv_aload_n hx hb dX9_block_263 rfl (lv_at hl 0 rfl) ?_
      refine lv_aload_n hx hb dX9_block_264 rfl (lv_at hl 0 rfl) ?_
      refine gfWM_HiddenEdgesModel_blockPoint hc hP q_107 dX9_block_265 ?_
      refine lv_aload_n hx hb dX9_block_268 rfl (lv_at hl 0 rfl) ?_
      refine gfWM_HiddenEdgesModel_blockCorner hc hP q_106 dX9_block_269 ?_
      refine lv_iconst (v := Int32.ofInt (3 : Int)) hx hb dX9_block_272 (by decide) ?_
      refine lv_iload hx hb dX9_block_273 (lv_at hl 2 rfl) ?_
      refine z_imul hx hb dX9_block_275 ?_
      obtain ⟨h2, h⟩ := chk_at h
      refine azWM_HiddenEdgesModel_blockCorner hc hP h2 dX9_block_276 ?_
      obtain ⟨h3, h⟩ := chk_at h
      refine azWM_HiddenEdgesModel_blockPoint hc hP h3 dX9_block_277 ?_
      refine lv_aload_n hx hb dX9_block_278 rfl (lv_at hl 0 rfl) ?_
      refine gfWM_HiddenEdgesModel_blockPoint hc hP q_107 dX9_block_279 ?_
      refine lv_aload_n hx hb dX9_block_282 rfl (lv_at hl 0 rfl) ?_
      refine gfWM_HiddenEdgesModel_blockCorner hc hP q_106 dX9_block_283 ?_
      refine lv_iconst (v := Int32.ofInt (3 : Int)) hx hb dX9_block_286 (by decide) ?_
      refine lv_iload hx hb dX9_block_287 (lv_at hl 2 rfl) ?_
      refine z_imul hx hb dX9_block_289 ?_
      refine lv_iconst (v := Int32.ofInt (1 : Int)) hx hb dX9_block_290 (by decide) ?_
      refine z_iadd hx hb dX9_block_291 ?_
      obtain ⟨h4, h⟩ := chk_at h
      refine azWM_HiddenEdgesModel_blockCorner hc hP h4 dX9_block_292 ?_
      obtain ⟨h5, h⟩ := chk_at h
      refine azWM_HiddenEdgesModel_blockPoint hc hP h5 dX9_block_293 ?_
      refine lv_aload_n hx hb dX9_block_294 rfl (lv_at hl 0 rfl) ?_
      refine gfWM_HiddenEdgesModel_blockPoint hc hP q_107 dX9_block_295 ?_
      refine lv_aload_n hx hb dX9_block_298 rfl (lv_at hl 0 rfl) ?_
      refine gfWM_HiddenEdgesModel_blockCorner hc hP q_106 dX9_block_299 ?_
      refine lv_iconst (v := Int32.ofInt (3 : Int)) hx hb dX9_block_302 (by decide) ?_
      refine lv_iload hx hb dX9_block_303 (lv_at hl 2 rfl) ?_
      refine z_imul hx hb dX9_block_305 ?_
      refine lv_iconst (v := Int32.ofInt (2 : Int)) hx hb dX9_block_306 (by decide) ?_
      refine z_iadd hx hb dX9_block_307 ?_
      obtain ⟨h6, h⟩ := chk_at h
      refine azWM_HiddenEdgesModel_blockCorner hc hP h6 dX9_block_308 ?_
      obtain ⟨h7, h⟩ := chk_at h
      refine azWM_HiddenEdgesModel_blockPoint hc hP h7 dX9_block_309 ?_
      obtain ⟨S8, hk9, h⟩ := ob1_at h
      refine cl_Vv (As := [.int (Int32.ofInt (za S 7 ((za S 6 (((3 : Int) * v8)).toNat)).toNat)), .int (Int32.ofInt (za S 7 ((za S 6 ((((3 : Int) * v8) + (1 : Int))).toNat)).toNat)), .int (Int32.ofInt (za S 7 ((za S 6 ((((3 : Int) * v8) + (2 : Int))).toNat)).toNat))]) (rest := []) hc k_X9_faceComes q_224 (c_X9_faceComes hk9) hP hS (WM_0 a g (em S)) rfl rfl rfl hl (Nat.le_of_ble_eq_true rfl) dX9_block_310 (Nat.le_of_ble_eq_true rfl) (Nat.le_of_ble_eq_true rfl) rfl (fun H locs hP hS => ?_)
      obtain ⟨x10, ex10⟩ : ∃ y : Int, y = v8 + (1 : Int) := ⟨_, rfl⟩
      replace h := olet_at ex10 h
      refine lv_iinc (v := Int32.ofInt x10) (lv' := [(8, .int (Int32.ofInt x10)), (0, .ref (a 0)), (7, .int (Int32.ofInt v7))]) hx hb dX9_block_313 hl (k := 2) rfl (by rw [ex10, Int32.ofInt_add]) (by decide) rfl (fun ls hl => ?_)
      refine lv_goto (tgt := 256) hx hb dX9_block_316 (by decide) ?_
      exact ih S8 v7 x10 h H locs ls hP hS (lv_sub hl [1, 2, 0] rfl)
set_option maxHeartbeats 4000000 in
set_option maxRecDepth 100000 in
theorem t_X9_block_p184 {z : SZ × Int} (hc : Cx p R s m args c D (tysWM g) A (WM a g) cX9_block 9 RX9 3 70) (hr : Rti p l e R s m args below meth c Q D A (WM a g) cX9_block (em z.1, Int32.ofInt z.2)) : ∀ (fu : Nat) (S : SZ) (v1 : Int) (v2 : Int) (v3 : Int) (v4 : Int) (v5 : Int) (v6 : Int) (v7 : Int) (v8 : Int), f_X9_block_p184 fu S v1 v2 v3 v4 v5 v6 v7 v8 = some z → Go p l e R s m args below meth c Q D A (WM a g) 9 (em S) 184 [(0, .ref (a 0)), (1, .int (Int32.ofInt v1)), (2, .int (Int32.ofInt v2)), (3, .int (Int32.ofInt v3)), (4, .int (Int32.ofInt v4)), (5, .int (Int32.ofInt v5)), (6, .int (Int32.ofInt v6)), (7, .int (Int32.ofInt v7)), (8, .int (Int32.ofInt v8))] [] := by
  obtain ⟨⟨hx, hb, hml, hown, hts⟩, -, -, -, hnf, hno⟩ := id hc
  intro fu
  induction fu with
  | zero =>
    intro S v1 v2 v3 v4 v5 v6 v7 v8 h
    rw [f_X9_block_p184] at h
    cases h
  | succ fu ih =>
    intro S v1 v2 v3 v4 v5 v6 v7 v8 h H locs ls hP hS hl
    rw [f_X9_block_p184] at h
    refine lv_iload hx hb dX9_block_184 (lv_at hl 8 rfl) ?_
    refine lv_bipush (v := Int32.ofInt (8 : Int)) hx hb dX9_block_186 (by decide) ?_
    obtain ⟨h1, h⟩ := chk_at h
    refine z_icmp_ge (tgt := 253) hx hb h1 (by decide) dX9_block_188 (by decide) (fun hq => ?_) (fun hq => ?_)
    · replace h := if_yes hq h
      refine lv_iconst (v := Int32.ofInt (0 : Int)) hx hb dX9_block_253 (by decide) ?_
      refine lv_istore (lv' := [(8, .int (Int32.ofInt (0 : Int))), (0, .ref (a 0)), (1, .int (Int32.ofInt v1)), (2, .int (Int32.ofInt v2)), (3, .int (Int32.ofInt v3)), (4, .int (Int32.ofInt v4)), (5, .int (Int32.ofInt v5)), (6, .int (Int32.ofInt v6)), (7, .int (Int32.ofInt v7))]) hx hb dX9_block_254 hl (by decide) rfl (fun ls hl => ?_)
      exact t_X9_block_p256 hc hr FU S v7 (0 : Int) h H locs ls hP hS (lv_sub hl [1, 8, 0] rfl)
    · replace h := if_no hq h
      refine lv_aload_n hx hb dX9_block_191 rfl (lv_at hl 0 rfl) ?_
      refine gfWM_HiddenEdgesModel_blockPoint hc hP q_107 dX9_block_192 ?_
      refine lv_iload hx hb dX9_block_195 (lv_at hl 8 rfl) ?_
      obtain ⟨h2, h⟩ := chk_at h
      refine azWM_HiddenEdgesModel_blockPoint hc hP h2 dX9_block_197 ?_
      refine lv_bipush (v := Int32.ofInt (-9 : Int)) hx hb dX9_block_198 (by decide) ?_
      obtain ⟨h3, h⟩ := chk_at h
      refine z_icmp_ne (tgt := 247) hx hb h3 (by decide) dX9_block_200 (by decide) (fun hq => ?_) (fun hq => ?_)
      · replace h := if_no hq h
        obtain ⟨x4, ex4⟩ : ∃ y : Int, y = v8 + (1 : Int) := ⟨_, rfl⟩
        replace h := olet_at ex4 h
        refine lv_iinc (v := Int32.ofInt x4) (lv' := [(8, .int (Int32.ofInt x4)), (0, .ref (a 0)), (1, .int (Int32.ofInt v1)), (2, .int (Int32.ofInt v2)), (3, .int (Int32.ofInt v3)), (4, .int (Int32.ofInt v4)), (5, .int (Int32.ofInt v5)), (6, .int (Int32.ofInt v6)), (7, .int (Int32.ofInt v7))]) hx hb dX9_block_247 hl (k := 8) rfl (by rw [ex4, Int32.ofInt_add]) (by decide) rfl (fun ls hl => ?_)
        refine lv_goto (tgt := 184) hx hb dX9_block_250 (by decide) ?_
        exact ih S v1 v2 v3 v4 v5 v6 v7 x4 h H locs ls hP hS (lv_sub hl [1, 2, 3, 4, 5, 6, 7, 8, 0] rfl)
      · replace h := if_yes hq h
        refine lv_aload_n hx hb dX9_block_203 rfl (lv_at hl 0 rfl) ?_
        refine gfWM_HiddenEdgesModel_blockPoint hc hP q_107 dX9_block_204 ?_
        refine lv_iload hx hb dX9_block_207 (lv_at hl 8 rfl) ?_
        refine lv_aload_n hx hb dX9_block_209 rfl (lv_at hl 0 rfl) ?_
        refine gzWM_HiddenEdgesModel_points hc hP q_154 dX9_block_210 ?_
        refine szWM_HiddenEdgesModel_blockPoint hc hP hS h2 dX9_block_213 (fun H locs hP hS => ?_)
        obtain ⟨S5, eS5⟩ : ∃ z, z = ua S 7 (v8).toNat (zi S 0) := ⟨_, rfl⟩
        replace h := olet_at eS5 h
        rw [← eS5] at hP
        refine lv_aload_n hx hb dX9_block_214 rfl (lv_at hl 0 rfl) ?_
        refine lv_iload_n hx hb dX9_block_215 rfl (lv_at hl 1 rfl) ?_
        refine lv_iload hx hb dX9_block_216 (lv_at hl 4 rfl) ?_
        refine lv_iload hx hb dX9_block_218 (lv_at hl 8 rfl) ?_
        refine lv_iconst (v := Int32.ofInt (1 : Int)) hx hb dX9_block_220 (by decide) ?_
        refine z_iand hx hb dX9_block_221 ?_
        refine z_imul hx hb dX9_block_222 ?_
        refine z_iadd hx hb dX9_block_223 ?_
        refine lv_iload_n hx hb dX9_block_224 rfl (lv_at hl 2 rfl) ?_
        refine lv_iload hx hb dX9_block_225 (lv_at hl 5 rfl) ?_
        refine lv_iload hx hb dX9_block_227 (lv_at hl 8 rfl) ?_
        refine lv_iconst (v := Int32.ofInt (1 : Int)) hx hb dX9_block_229 (by decide) ?_
        refine z_ishr hx hb dX9_block_230 ?_
        refine lv_iconst (v := Int32.ofInt (1 : Int)) hx hb dX9_block_231 (by decide) ?_
        refine z_iand hx hb dX9_block_232 ?_
        refine z_imul hx hb dX9_block_233 ?_
        refine z_iadd hx hb dX9_block_234 ?_
        refine lv_iload_n hx hb dX9_block_235 rfl (lv_at hl 3 rfl) ?_
        refine lv_iload hx hb dX9_block_236 (lv_at hl 6 rfl) ?_
        refine lv_iload hx hb dX9_block_238 (lv_at hl 8 rfl) ?_
        refine lv_iconst (v := Int32.ofInt (2 : Int)) hx hb dX9_block_240 (by decide) ?_
        refine z_ishr hx hb dX9_block_241 ?_
        refine z_imul hx hb dX9_block_242 ?_
        refine z_iadd hx hb dX9_block_243 ?_
        obtain ⟨S6, hk7, h⟩ := ob1_at h
        refine cl_Vv (As := [.int (Int32.ofInt (v1 + (v4 * (ziand v8 (1 : Int))))), .int (Int32.ofInt (v2 + (v5 * (ziand (zishr v8 (1 : Int)) (1 : Int))))), .int (Int32.ofInt (v3 + (v6 * (zishr v8 (2 : Int)))))]) (rest := []) hc k_X9_comes q_165 (c_X9_comes hk7) hP hS (WM_0 a g (em S5)) rfl rfl rfl hl (Nat.le_of_ble_eq_true rfl) dX9_block_244 (Nat.le_of_ble_eq_true rfl) (Nat.le_of_ble_eq_true rfl) rfl (fun H locs hP hS => ?_)
        obtain ⟨x8, ex8⟩ : ∃ y : Int, y = v8 + (1 : Int) := ⟨_, rfl⟩
        replace h := olet_at ex8 h
        refine lv_iinc (v := Int32.ofInt x8) (lv' := [(8, .int (Int32.ofInt x8)), (0, .ref (a 0)), (1, .int (Int32.ofInt v1)), (2, .int (Int32.ofInt v2)), (3, .int (Int32.ofInt v3)), (4, .int (Int32.ofInt v4)), (5, .int (Int32.ofInt v5)), (6, .int (Int32.ofInt v6)), (7, .int (Int32.ofInt v7))]) hx hb dX9_block_247 hl (k := 8) rfl (by rw [ex8, Int32.ofInt_add]) (by decide) rfl (fun ls hl => ?_)
        refine lv_goto (tgt := 184) hx hb dX9_block_250 (by decide) ?_
        exact ih S6 v1 v2 v3 v4 v5 v6 v7 x8 h H locs ls hP hS (lv_sub hl [1, 2, 3, 4, 5, 6, 7, 8, 0] rfl)
set_option maxHeartbeats 4000000 in
set_option maxRecDepth 100000 in
theorem t_X9_block_p69 {z : SZ × Int} (hc : Cx p R s m args c D (tysWM g) A (WM a g) cX9_block 9 RX9 3 70) (hr : Rti p l e R s m args below meth c Q D A (WM a g) cX9_block (em z.1, Int32.ofInt z.2)) : ∀ (fu : Nat) (S : SZ) (v1 : Int) (v2 : Int) (v3 : Int) (v4 : Int) (v5 : Int) (v6 : Int) (v7 : Int) (v8 : Int), f_X9_block_p69 fu S v1 v2 v3 v4 v5 v6 v7 v8 = some z → Go p l e R s m args below meth c Q D A (WM a g) 9 (em S) 69 [(0, .ref (a 0)), (1, .int (Int32.ofInt v1)), (2, .int (Int32.ofInt v2)), (3, .int (Int32.ofInt v3)), (4, .int (Int32.ofInt v4)), (5, .int (Int32.ofInt v5)), (6, .int (Int32.ofInt v6)), (7, .int (Int32.ofInt v7)), (8, .int (Int32.ofInt v8))] [] := by
  obtain ⟨⟨hx, hb, hml, hown, hts⟩, -, -, -, hnf, hno⟩ := id hc
  intro fu
  induction fu with
  | zero =>
    intro S v1 v2 v3 v4 v5 v6 v7 v8 h
    rw [f_X9_block_p69] at h
    cases h
  | succ fu ih =>
    intro S v1 v2 v3 v4 v5 v6 v7 v8 h H locs ls hP hS hl
    rw [f_X9_block_p69] at h
    refine lv_iload hx hb dX9_block_69 (lv_at hl 8 rfl) ?_
    refine lv_bipush (v := Int32.ofInt (8 : Int)) hx hb dX9_block_71 (by decide) ?_
    obtain ⟨h1, h⟩ := chk_at h
    refine z_icmp_ge (tgt := 144) hx hb h1 (by decide) dX9_block_73 (by decide) (fun hq => ?_) (fun hq => ?_)
    · replace h := if_yes hq h
      refine lv_aload_n hx hb dX9_block_144 rfl (lv_at hl 0 rfl) ?_
      obtain ⟨S2, x4, hk3, h⟩ := ob2_at h
      refine cl_Vi (As := []) (rest := []) hc k_X9_isBlockThere q_270 (c_X9_isBlockThere hk3) hP hS (WM_0 a g (em S)) rfl rfl rfl hl (Nat.le_of_ble_eq_true rfl) dX9_block_145 (Nat.le_of_ble_eq_true rfl) (Nat.le_of_ble_eq_true rfl) rfl (fun H locs hP hS => ?_)
      obtain ⟨h5, h⟩ := chk_at h
      refine z_if_eq (tgt := 154) hx hb h5 dX9_block_148 (by decide) (fun hq => ?_) (fun hq => ?_)
      · replace h := if_yes hq h
        refine lv_aload_n hx hb dX9_block_154 rfl (lv_at hl 0 rfl) ?_
        refine gzWM_HiddenEdgesModel_points hc hP q_154 dX9_block_155 ?_
        refine lv_iload hx hb dX9_block_158 (lv_at hl 7 rfl) ?_
        refine z_iadd hx hb dX9_block_160 ?_
        refine lv_bipush (v := Int32.ofInt (16 : Int)) hx hb dX9_block_161 (by decide) ?_
        obtain ⟨h6, h⟩ := chk_at h
        refine z_icmp_gt (tgt := 178) hx hb h6 (by decide) dX9_block_163 (by decide) (fun hq => ?_) (fun hq => ?_)
        · replace h := if_yes hq h
          refine lv_bipush (v := Int32.ofInt (-4 : Int)) hx hb dX9_block_178 (by decide) ?_
          obtain rfl := Option.some.inj h
          exact hr _ _ _ _ dX9_block_180 hP hS
        · replace h := if_no hq h
          refine lv_aload_n hx hb dX9_block_166 rfl (lv_at hl 0 rfl) ?_
          refine gzWM_HiddenEdgesModel_faces hc hP q_207 dX9_block_167 ?_
          refine lv_bipush (v := Int32.ofInt (12 : Int)) hx hb dX9_block_170 (by decide) ?_
          refine z_iadd hx hb dX9_block_172 ?_
          refine lv_bipush (v := Int32.ofInt (24 : Int)) hx hb dX9_block_173 (by decide) ?_
          obtain ⟨h7, h⟩ := chk_at h
          refine z_icmp_le (tgt := 181) hx hb h7 (by decide) dX9_block_175 (by decide) (fun hq => ?_) (fun hq => ?_)
          · replace h := if_yes hq h
            refine lv_iconst (v := Int32.ofInt (0 : Int)) hx hb dX9_block_181 (by decide) ?_
            refine lv_istore (lv' := [(8, .int (Int32.ofInt (0 : Int))), (0, .ref (a 0)), (1, .int (Int32.ofInt v1)), (2, .int (Int32.ofInt v2)), (3, .int (Int32.ofInt v3)), (4, .int (Int32.ofInt v4)), (5, .int (Int32.ofInt v5)), (6, .int (Int32.ofInt v6)), (7, .int (Int32.ofInt v7))]) hx hb dX9_block_182 hl (by decide) rfl (fun ls hl => ?_)
            exact t_X9_block_p184 hc hr FU S2 v1 v2 v3 v4 v5 v6 v7 (0 : Int) h H locs ls hP hS (lv_sub hl [1, 2, 3, 4, 5, 6, 7, 8, 0] rfl)
          · replace h := if_no hq h
            refine lv_bipush (v := Int32.ofInt (-4 : Int)) hx hb dX9_block_178 (by decide) ?_
            obtain rfl := Option.some.inj h
            exact hr _ _ _ _ dX9_block_180 hP hS
      · replace h := if_no hq h
        refine lv_bipush (v := Int32.ofInt (-3 : Int)) hx hb dX9_block_151 (by decide) ?_
        obtain rfl := Option.some.inj h
        exact hr _ _ _ _ dX9_block_153 hP hS
    · replace h := if_no hq h
      refine lv_aload_n hx hb dX9_block_76 rfl (lv_at hl 0 rfl) ?_
      refine gfWM_HiddenEdgesModel_blockPoint hc hP q_107 dX9_block_77 ?_
      refine lv_iload hx hb dX9_block_80 (lv_at hl 8 rfl) ?_
      refine lv_aload_n hx hb dX9_block_82 rfl (lv_at hl 0 rfl) ?_
      refine lv_iload_n hx hb dX9_block_83 rfl (lv_at hl 1 rfl) ?_
      refine lv_iload hx hb dX9_block_84 (lv_at hl 4 rfl) ?_
      refine lv_iload hx hb dX9_block_86 (lv_at hl 8 rfl) ?_
      refine lv_iconst (v := Int32.ofInt (1 : Int)) hx hb dX9_block_88 (by decide) ?_
      refine z_iand hx hb dX9_block_89 ?_
      refine z_imul hx hb dX9_block_90 ?_
      refine z_iadd hx hb dX9_block_91 ?_
      refine lv_iload_n hx hb dX9_block_92 rfl (lv_at hl 2 rfl) ?_
      refine lv_iload hx hb dX9_block_93 (lv_at hl 5 rfl) ?_
      refine lv_iload hx hb dX9_block_95 (lv_at hl 8 rfl) ?_
      refine lv_iconst (v := Int32.ofInt (1 : Int)) hx hb dX9_block_97 (by decide) ?_
      refine z_ishr hx hb dX9_block_98 ?_
      refine lv_iconst (v := Int32.ofInt (1 : Int)) hx hb dX9_block_99 (by decide) ?_
      refine z_iand hx hb dX9_block_100 ?_
      refine z_imul hx hb dX9_block_101 ?_
      refine z_iadd hx hb dX9_block_102 ?_
      refine lv_iload_n hx hb dX9_block_103 rfl (lv_at hl 3 rfl) ?_
      refine lv_iload hx hb dX9_block_104 (lv_at hl 6 rfl) ?_
      refine lv_iload hx hb dX9_block_106 (lv_at hl 8 rfl) ?_
      refine lv_iconst (v := Int32.ofInt (2 : Int)) hx hb dX9_block_108 (by decide) ?_
      refine z_ishr hx hb dX9_block_109 ?_
      refine z_imul hx hb dX9_block_110 ?_
      refine z_iadd hx hb dX9_block_111 ?_
      obtain ⟨S8, x10, hk9, h⟩ := ob2_at h
      refine cl_Vi (As := [.int (Int32.ofInt (v1 + (v4 * (ziand v8 (1 : Int))))), .int (Int32.ofInt (v2 + (v5 * (ziand (zishr v8 (1 : Int)) (1 : Int))))), .int (Int32.ofInt (v3 + (v6 * (zishr v8 (2 : Int)))))]) (rest := [.int (Int32.ofInt v8), .ref (a 8)]) hc k_X9_pointAt q_161 (c_X9_pointAt hk9) hP hS (WM_0 a g (em S)) rfl rfl rfl hl (Nat.le_of_ble_eq_true rfl) dX9_block_112 (Nat.le_of_ble_eq_true rfl) (Nat.le_of_ble_eq_true rfl) rfl (fun H locs hP hS => ?_)
      obtain ⟨h11, h⟩ := chk_at h
      refine szWM_HiddenEdgesModel_blockPoint hc hP hS h11 dX9_block_115 (fun H locs hP hS => ?_)
      obtain ⟨S12, eS12⟩ : ∃ z, z = ua S8 7 (v8).toNat x10 := ⟨_, rfl⟩
      replace h := olet_at eS12 h
      rw [← eS12] at hP
      refine lv_iload hx hb dX9_block_116 (lv_at hl 7 rfl) ?_
      refine lv_aload_n hx hb dX9_block_118 rfl (lv_at hl 0 rfl) ?_
      refine gfWM_HiddenEdgesModel_blockPoint hc hP q_107 dX9_block_119 ?_
      refine lv_iload hx hb dX9_block_122 (lv_at hl 8 rfl) ?_
      refine azWM_HiddenEdgesModel_blockPoint hc hP h11 dX9_block_124 ?_
      refine lv_bipush (v := Int32.ofInt (-9 : Int)) hx hb dX9_block_125 (by decide) ?_
      obtain ⟨h13, h⟩ := chk_at h
      refine z_icmp_ne (tgt := 134) hx hb h13 (by decide) dX9_block_127 (by decide) (fun hq => ?_) (fun hq => ?_)
      · replace h := if_no hq h
        refine lv_iconst (v := Int32.ofInt (0 : Int)) hx hb dX9_block_134 (by decide) ?_
        refine z_iadd hx hb dX9_block_135 ?_
        refine z_topi (fun x14 ex14 => ?_)
        replace h := olet_at ex14 h
        refine lv_istore (lv' := [(7, .int (Int32.ofInt x14)), (0, .ref (a 0)), (1, .int (Int32.ofInt v1)), (2, .int (Int32.ofInt v2)), (3, .int (Int32.ofInt v3)), (4, .int (Int32.ofInt v4)), (5, .int (Int32.ofInt v5)), (6, .int (Int32.ofInt v6)), (8, .int (Int32.ofInt v8))]) hx hb dX9_block_136 hl (by decide) rfl (fun ls hl => ?_)
        obtain ⟨x15, ex15⟩ : ∃ y : Int, y = v8 + (1 : Int) := ⟨_, rfl⟩
        replace h := olet_at ex15 h
        refine lv_iinc (v := Int32.ofInt x15) (lv' := [(8, .int (Int32.ofInt x15)), (7, .int (Int32.ofInt x14)), (0, .ref (a 0)), (1, .int (Int32.ofInt v1)), (2, .int (Int32.ofInt v2)), (3, .int (Int32.ofInt v3)), (4, .int (Int32.ofInt v4)), (5, .int (Int32.ofInt v5)), (6, .int (Int32.ofInt v6))]) hx hb dX9_block_138 hl (k := 8) rfl (by rw [ex15, Int32.ofInt_add]) (by decide) rfl (fun ls hl => ?_)
        refine lv_goto (tgt := 69) hx hb dX9_block_141 (by decide) ?_
        exact ih S12 v1 v2 v3 v4 v5 v6 x14 x15 h H locs ls hP hS (lv_sub hl [2, 3, 4, 5, 6, 7, 8, 1, 0] rfl)
      · replace h := if_yes hq h
        refine lv_iconst (v := Int32.ofInt (1 : Int)) hx hb dX9_block_130 (by decide) ?_
        refine lv_goto (tgt := 135) hx hb dX9_block_131 (by decide) ?_
        refine z_iadd hx hb dX9_block_135 ?_
        refine z_topi (fun x16 ex16 => ?_)
        replace h := olet_at ex16 h
        refine lv_istore (lv' := [(7, .int (Int32.ofInt x16)), (0, .ref (a 0)), (1, .int (Int32.ofInt v1)), (2, .int (Int32.ofInt v2)), (3, .int (Int32.ofInt v3)), (4, .int (Int32.ofInt v4)), (5, .int (Int32.ofInt v5)), (6, .int (Int32.ofInt v6)), (8, .int (Int32.ofInt v8))]) hx hb dX9_block_136 hl (by decide) rfl (fun ls hl => ?_)
        obtain ⟨x17, ex17⟩ : ∃ y : Int, y = v8 + (1 : Int) := ⟨_, rfl⟩
        replace h := olet_at ex17 h
        refine lv_iinc (v := Int32.ofInt x17) (lv' := [(8, .int (Int32.ofInt x17)), (7, .int (Int32.ofInt x16)), (0, .ref (a 0)), (1, .int (Int32.ofInt v1)), (2, .int (Int32.ofInt v2)), (3, .int (Int32.ofInt v3)), (4, .int (Int32.ofInt v4)), (5, .int (Int32.ofInt v5)), (6, .int (Int32.ofInt v6))]) hx hb dX9_block_138 hl (k := 8) rfl (by rw [ex17, Int32.ofInt_add]) (by decide) rfl (fun ls hl => ?_)
        refine lv_goto (tgt := 69) hx hb dX9_block_141 (by decide) ?_
        exact ih S12 v1 v2 v3 v4 v5 v6 x16 x17 h H locs ls hP hS (lv_sub hl [2, 3, 4, 5, 6, 7, 8, 1, 0] rfl)
set_option maxHeartbeats 4000000 in
set_option maxRecDepth 100000 in
theorem t_X9_block {z : SZ × Int} (hc : Cx p R s m args c D (tysWM g) A (WM a g) cX9_block 9 RX9 3 70) (hr : Rti p l e R s m args below meth c Q D A (WM a g) cX9_block (em z.1, Int32.ofInt z.2)) : ∀ (S : SZ) (v1 : Int) (v2 : Int) (v3 : Int) (v4 : Int) (v5 : Int) (v6 : Int), f_X9_block S v1 v2 v3 v4 v5 v6 = some z → Go p l e R s m args below meth c Q D A (WM a g) 9 (em S) 0 [(0, .ref (a 0)), (1, .int (Int32.ofInt v1)), (2, .int (Int32.ofInt v2)), (3, .int (Int32.ofInt v3)), (4, .int (Int32.ofInt v4)), (5, .int (Int32.ofInt v5)), (6, .int (Int32.ofInt v6))] [] := by
  obtain ⟨⟨hx, hb, hml, hown, hts⟩, -, -, -, hnf, hno⟩ := id hc
  intro S v1 v2 v3 v4 v5 v6 h H locs ls hP hS hl
  rw [f_X9_block] at h
  replace hl : lv_has ls 9 [(0, .ref (a 0)), (1, .int (Int32.ofInt v1)), (2, .int (Int32.ofInt v2)), (3, .int (Int32.ofInt v3)), (4, .int (Int32.ofInt v4)), (5, .int (Int32.ofInt v5)), (6, .int (Int32.ofInt v6))] := hl
  refine lv_iload_n hx hb dX9_block_0 rfl (lv_at hl 1 rfl) ?_
  refine lv_iload_n hx hb dX9_block_1 rfl (lv_at hl 2 rfl) ?_
  refine lv_iload_n hx hb dX9_block_2 rfl (lv_at hl 3 rfl) ?_
  obtain ⟨S1, x3, hk2, h⟩ := ob2_at h
  refine cl_Si (As := [.int (Int32.ofInt v1), .int (Int32.ofInt v2), .int (Int32.ofInt v3)]) (rest := []) hc k_X9_isPlace q_155 (c_X9_isPlace hk2) hP hS rfl hl (Nat.le_of_ble_eq_true rfl) dX9_block_3 (Nat.le_of_ble_eq_true rfl) (Nat.le_of_ble_eq_true rfl) rfl (fun H locs hP hS => ?_)
  obtain ⟨h4, h⟩ := chk_at h
  refine z_if_eq (tgt := 60) hx hb h4 dX9_block_6 (by decide) (fun hq => ?_) (fun hq => ?_)
  · replace h := if_yes hq h
    refine lv_bipush (v := Int32.ofInt (-2 : Int)) hx hb dX9_block_60 (by decide) ?_
    obtain rfl := Option.some.inj h
    exact hr _ _ _ _ dX9_block_62 hP hS
  · replace h := if_no hq h
    refine lv_iload hx hb dX9_block_9 (lv_at hl 4 rfl) ?_
    refine lv_iconst (v := Int32.ofInt (1 : Int)) hx hb dX9_block_11 (by decide) ?_
    refine lv_bipush (v := Int32.ofInt (9 : Int)) hx hb dX9_block_12 (by decide) ?_
    obtain ⟨S5, x7, hk6, h⟩ := ob2_at h
    refine cl_Si (As := [.int (Int32.ofInt v4), .int (Int32.ofInt (1 : Int)), .int (Int32.ofInt (9 : Int))]) (rest := []) hc k_X9_within q_158 (c_X9_within hk6) hP hS rfl hl (Nat.le_of_ble_eq_true rfl) dX9_block_14 (Nat.le_of_ble_eq_true rfl) (Nat.le_of_ble_eq_true rfl) rfl (fun H locs hP hS => ?_)
    obtain ⟨h8, h⟩ := chk_at h
    refine z_if_eq (tgt := 60) hx hb h8 dX9_block_17 (by decide) (fun hq => ?_) (fun hq => ?_)
    · replace h := if_yes hq h
      refine lv_bipush (v := Int32.ofInt (-2 : Int)) hx hb dX9_block_60 (by decide) ?_
      obtain rfl := Option.some.inj h
      exact hr _ _ _ _ dX9_block_62 hP hS
    · replace h := if_no hq h
      refine lv_iload hx hb dX9_block_20 (lv_at hl 5 rfl) ?_
      refine lv_iconst (v := Int32.ofInt (1 : Int)) hx hb dX9_block_22 (by decide) ?_
      refine lv_bipush (v := Int32.ofInt (9 : Int)) hx hb dX9_block_23 (by decide) ?_
      obtain ⟨S9, x11, hk10, h⟩ := ob2_at h
      refine cl_Si (As := [.int (Int32.ofInt v5), .int (Int32.ofInt (1 : Int)), .int (Int32.ofInt (9 : Int))]) (rest := []) hc k_X9_within q_158 (c_X9_within hk10) hP hS rfl hl (Nat.le_of_ble_eq_true rfl) dX9_block_25 (Nat.le_of_ble_eq_true rfl) (Nat.le_of_ble_eq_true rfl) rfl (fun H locs hP hS => ?_)
      obtain ⟨h12, h⟩ := chk_at h
      refine z_if_eq (tgt := 60) hx hb h12 dX9_block_28 (by decide) (fun hq => ?_) (fun hq => ?_)
      · replace h := if_yes hq h
        refine lv_bipush (v := Int32.ofInt (-2 : Int)) hx hb dX9_block_60 (by decide) ?_
        obtain rfl := Option.some.inj h
        exact hr _ _ _ _ dX9_block_62 hP hS
      · replace h := if_no hq h
        refine lv_iload hx hb dX9_block_31 (lv_at hl 6 rfl) ?_
        refine lv_iconst (v := Int32.ofInt (1 : Int)) hx hb dX9_block_33 (by decide) ?_
        refine lv_bipush (v := Int32.ofInt (9 : Int)) hx hb dX9_block_34 (by decide) ?_
        obtain ⟨S13, x15, hk14, h⟩ := ob2_at h
        refine cl_Si (As := [.int (Int32.ofInt v6), .int (Int32.ofInt (1 : Int)), .int (Int32.ofInt (9 : Int))]) (rest := []) hc k_X9_within q_158 (c_X9_within hk14) hP hS rfl hl (Nat.le_of_ble_eq_true rfl) dX9_block_36 (Nat.le_of_ble_eq_true rfl) (Nat.le_of_ble_eq_true rfl) rfl (fun H locs hP hS => ?_)
        obtain ⟨h16, h⟩ := chk_at h
        refine z_if_eq (tgt := 60) hx hb h16 dX9_block_39 (by decide) (fun hq => ?_) (fun hq => ?_)
        · replace h := if_yes hq h
          refine lv_bipush (v := Int32.ofInt (-2 : Int)) hx hb dX9_block_60 (by decide) ?_
          obtain rfl := Option.some.inj h
          exact hr _ _ _ _ dX9_block_62 hP hS
        · replace h := if_no hq h
          refine lv_iload_n hx hb dX9_block_42 rfl (lv_at hl 1 rfl) ?_
          refine lv_iload hx hb dX9_block_43 (lv_at hl 4 rfl) ?_
          refine z_iadd hx hb dX9_block_45 ?_
          refine lv_iload_n hx hb dX9_block_46 rfl (lv_at hl 2 rfl) ?_
          refine lv_iload hx hb dX9_block_47 (lv_at hl 5 rfl) ?_
          refine z_iadd hx hb dX9_block_49 ?_
          refine lv_iload_n hx hb dX9_block_50 rfl (lv_at hl 3 rfl) ?_
          refine lv_iload hx hb dX9_block_51 (lv_at hl 6 rfl) ?_
          refine z_iadd hx hb dX9_block_53 ?_
          obtain ⟨S17, x19, hk18, h⟩ := ob2_at h
          refine cl_Si (As := [.int (Int32.ofInt (v1 + v4)), .int (Int32.ofInt (v2 + v5)), .int (Int32.ofInt (v3 + v6))]) (rest := []) hc k_X9_isPlace q_155 (c_X9_isPlace hk18) hP hS rfl hl (Nat.le_of_ble_eq_true rfl) dX9_block_54 (Nat.le_of_ble_eq_true rfl) (Nat.le_of_ble_eq_true rfl) rfl (fun H locs hP hS => ?_)
          obtain ⟨h20, h⟩ := chk_at h
          refine z_if_ne (tgt := 63) hx hb h20 dX9_block_57 (by decide) (fun hq => ?_) (fun hq => ?_)
          · replace h := if_no hq h
            refine lv_iconst (v := Int32.ofInt (0 : Int)) hx hb dX9_block_63 (by decide) ?_
            refine lv_istore (lv' := [(7, .int (Int32.ofInt (0 : Int))), (0, .ref (a 0)), (1, .int (Int32.ofInt v1)), (2, .int (Int32.ofInt v2)), (3, .int (Int32.ofInt v3)), (4, .int (Int32.ofInt v4)), (5, .int (Int32.ofInt v5)), (6, .int (Int32.ofInt v6))]) hx hb dX9_block_64 hl (by decide) rfl (fun ls hl => ?_)
            refine lv_iconst (v := Int32.ofInt (0 : Int)) hx hb dX9_block_66 (by decide) ?_
            refine lv_istore (lv' := [(8, .int (Int32.ofInt (0 : Int))), (7, .int (Int32.ofInt (0 : Int))), (0, .ref (a 0)), (1, .int (Int32.ofInt v1)), (2, .int (Int32.ofInt v2)), (3, .int (Int32.ofInt v3)), (4, .int (Int32.ofInt v4)), (5, .int (Int32.ofInt v5)), (6, .int (Int32.ofInt v6))]) hx hb dX9_block_67 hl (by decide) rfl (fun ls hl => ?_)
            exact t_X9_block_p69 hc hr FU S17 v1 v2 v3 v4 v5 v6 (0 : Int) (0 : Int) h H locs ls hP hS (lv_sub hl [2, 3, 4, 5, 6, 7, 8, 1, 0] rfl)
          · replace h := if_yes hq h
            refine lv_bipush (v := Int32.ofInt (-2 : Int)) hx hb dX9_block_60 (by decide) ?_
            obtain rfl := Option.some.inj h
            exact hr _ _ _ _ dX9_block_62 hP hS
abbrev rm_X9_block : Room := { frames := 3, cells := 0, slots := 0, locals := 70 }
theorem c_X9_block {l : Launch} {D : va_G} {a : Nat → Nat} {g : Nat → ClassId} {S : SZ} {v1 : Int} {v2 : Int} {v3 : Int} {v4 : Int} {v5 : Int} {v6 : Int} {Z1 : SZ} {r1 : Int} (h : f_X9_block S v1 v2 v3 v4 v5 v6 = some (Z1, r1)) : MetI l D (tysWM g) (WM a g) E0 yX9_block cX9_block 9 (some .int) rm_X9_block [.ref (a 0), .int (Int32.ofInt v1), .int (Int32.ofInt v2), .int (Int32.ofInt v3), .int (Int32.ofInt v4), .int (Int32.ofInt v5), .int (Int32.ofInt v6)] (em S) (em Z1, Int32.ofInt r1) := mk_i (WM_same a g) (by decide) (em Z1, Int32.ofInt r1) (Nat.le_of_ble_eq_true rfl) (fun p e s m args below meth c A Q hc hE hr => t_X9_block (z := (Z1, r1)) hc hr S v1 v2 v3 v4 v5 v6 h)
theorem k_X9_block : CalV RX9 yX9_block cX9_block 9 (some .int) rm_X9_block 6 := ⟨q_267, q_268, q_5, q_269, by decide +kernel, rfl, rfl⟩
set_option maxHeartbeats 4000000 in
set_option maxRecDepth 100000 in
theorem t_X9_cut {z : SZ × Int} (hc : Cx p R s m args c D (tysWM g) A (WM a g) cX9_cut 1 RX9 0 0) (hr : Rti p l e R s m args below meth c Q D A (WM a g) cX9_cut (em z.1, Int32.ofInt z.2)) : ∀ (S : SZ), f_X9_cut S = some z → Go p l e R s m args below meth c Q D A (WM a g) 1 (em S) 0 [(0, .ref (a 0))] [] := by
  obtain ⟨⟨hx, hb, hml, hown, hts⟩, -, -, -, hnf, hno⟩ := id hc
  intro S h H locs ls hP hS hl
  rw [f_X9_cut] at h
  replace hl : lv_has ls 1 [(0, .ref (a 0))] := hl
  refine lv_aload_n hx hb dX9_cut_0 rfl (lv_at hl 0 rfl) ?_
  refine gzWM_HiddenEdgesModel_faces hc hP q_207 dX9_cut_1 ?_
  obtain ⟨h1, h⟩ := chk_at h
  refine z_if_ne (tgt := 10) hx hb h1 dX9_cut_4 (by decide) (fun hq => ?_) (fun hq => ?_)
  · replace h := if_no hq h
    refine lv_aload_n hx hb dX9_cut_10 rfl (lv_at hl 0 rfl) ?_
    refine lv_dup hx hb dX9_cut_11 rfl ?_
    refine gzWM_HiddenEdgesModel_faces hc hP q_207 dX9_cut_12 ?_
    refine lv_iconst (v := Int32.ofInt (1 : Int)) hx hb dX9_cut_15 (by decide) ?_
    refine z_isub hx hb dX9_cut_16 ?_
    refine pzWM_HiddenEdgesModel_faces hc hP hS q_207 dX9_cut_17 (fun H locs hP hS => ?_)
    obtain ⟨S2, eS2⟩ : ∃ z, z = ui S 1 ((zi S 1) - (1 : Int)) := ⟨_, rfl⟩
    replace h := olet_at eS2 h
    rw [← eS2] at hP
    refine lv_aload_n hx hb dX9_cut_20 rfl (lv_at hl 0 rfl) ?_
    refine lv_iconst (v := Int32.ofInt (0 : Int)) hx hb dX9_cut_21 (by decide) ?_
    refine pzWM_HiddenEdgesModel_isFound hc hP hS (Or.inl rfl) q_169 dX9_cut_22 (fun H locs hP hS => ?_)
    obtain ⟨S3, eS3⟩ : ∃ z, z = ui S2 6 (0 : Int) := ⟨_, rfl⟩
    replace h := olet_at eS3 h
    rw [← eS3] at hP
    refine lv_aload_n hx hb dX9_cut_25 rfl (lv_at hl 0 rfl) ?_
    refine gzWM_HiddenEdgesModel_faces hc hP q_207 dX9_cut_26 ?_
    obtain rfl := Option.some.inj h
    exact hr _ _ _ _ dX9_cut_29 hP hS
  · replace h := if_yes hq h
    refine lv_bipush (v := Int32.ofInt (-3 : Int)) hx hb dX9_cut_7 (by decide) ?_
    obtain rfl := Option.some.inj h
    exact hr _ _ _ _ dX9_cut_9 hP hS
abbrev rm_X9_cut : Room := { frames := 0, cells := 0, slots := 0, locals := 0 }
theorem c_X9_cut {l : Launch} {D : va_G} {a : Nat → Nat} {g : Nat → ClassId} {S : SZ} {Z1 : SZ} {r1 : Int} (h : f_X9_cut S = some (Z1, r1)) : MetI l D (tysWM g) (WM a g) E0 yX9_cut cX9_cut 1 (some .int) rm_X9_cut [.ref (a 0)] (em S) (em Z1, Int32.ofInt r1) := mk_i (WM_same a g) (by decide) (em Z1, Int32.ofInt r1) (Nat.le_of_ble_eq_true rfl) (fun p e s m args below meth c A Q hc hE hr => t_X9_cut (z := (Z1, r1)) hc hr S h)
theorem k_X9_cut : CalV RX9 yX9_cut cX9_cut 1 (some .int) rm_X9_cut 0 := ⟨q_279, q_280, q_5, q_281, by decide +kernel, rfl, rfl⟩
set_option maxHeartbeats 4000000 in
set_option maxRecDepth 100000 in
theorem t_X9_clear {z : SZ × Int} (hc : Cx p R s m args c D (tysWM g) A (WM a g) cX9_clear 2 RX9 0 0) (hr : Rti p l e R s m args below meth c Q D A (WM a g) cX9_clear (em z.1, Int32.ofInt z.2)) : ∀ (S : SZ), f_X9_clear S = some z → Go p l e R s m args below meth c Q D A (WM a g) 2 (em S) 0 [(0, .ref (a 0))] [] := by
  obtain ⟨⟨hx, hb, hml, hown, hts⟩, -, -, -, hnf, hno⟩ := id hc
  intro S h H locs ls hP hS hl
  rw [f_X9_clear] at h
  replace hl : lv_has ls 2 [(0, .ref (a 0))] := hl
  refine lv_aload_n hx hb dX9_clear_0 rfl (lv_at hl 0 rfl) ?_
  refine gzWM_HiddenEdgesModel_faces hc hP q_207 dX9_clear_1 ?_
  refine z_topi (fun x1 ex1 => ?_)
  replace h := olet_at ex1 h
  refine lv_istore_n (lv' := [(1, .int (Int32.ofInt x1)), (0, .ref (a 0))]) hx hb dX9_clear_4 rfl hl (by decide) rfl (fun ls hl => ?_)
  refine lv_aload_n hx hb dX9_clear_5 rfl (lv_at hl 1 rfl) ?_
  refine lv_iconst (v := Int32.ofInt (0 : Int)) hx hb dX9_clear_6 (by decide) ?_
  refine pzWM_HiddenEdgesModel_points hc hP hS q_154 dX9_clear_7 (fun H locs hP hS => ?_)
  obtain ⟨S2, eS2⟩ : ∃ z, z = ui S 0 (0 : Int) := ⟨_, rfl⟩
  replace h := olet_at eS2 h
  rw [← eS2] at hP
  refine lv_aload_n hx hb dX9_clear_10 rfl (lv_at hl 1 rfl) ?_
  refine lv_iconst (v := Int32.ofInt (0 : Int)) hx hb dX9_clear_11 (by decide) ?_
  refine pzWM_HiddenEdgesModel_faces hc hP hS q_207 dX9_clear_12 (fun H locs hP hS => ?_)
  obtain ⟨S3, eS3⟩ : ∃ z, z = ui S2 1 (0 : Int) := ⟨_, rfl⟩
  replace h := olet_at eS3 h
  rw [← eS3] at hP
  refine lv_aload_n hx hb dX9_clear_15 rfl (lv_at hl 1 rfl) ?_
  refine lv_iconst (v := Int32.ofInt (0 : Int)) hx hb dX9_clear_16 (by decide) ?_
  refine pzWM_HiddenEdgesModel_wires hc hP hS q_246 dX9_clear_17 (fun H locs hP hS => ?_)
  obtain ⟨S4, eS4⟩ : ∃ z, z = ui S3 2 (0 : Int) := ⟨_, rfl⟩
  replace h := olet_at eS4 h
  rw [← eS4] at hP
  refine lv_aload_n hx hb dX9_clear_20 rfl (lv_at hl 1 rfl) ?_
  refine lv_iconst (v := Int32.ofInt (0 : Int)) hx hb dX9_clear_21 (by decide) ?_
  refine pzWM_HiddenEdgesModel_isFound hc hP hS (Or.inl rfl) q_169 dX9_clear_22 (fun H locs hP hS => ?_)
  obtain ⟨S5, eS5⟩ : ∃ z, z = ui S4 6 (0 : Int) := ⟨_, rfl⟩
  replace h := olet_at eS5 h
  rw [← eS5] at hP
  refine lv_iload_n hx hb dX9_clear_25 rfl (lv_at hl 0 rfl) ?_
  obtain rfl := Option.some.inj h
  exact hr _ _ _ _ dX9_clear_26 hP hS
abbrev rm_X9_clear : Room := { frames := 0, cells := 0, slots := 0, locals := 0 }
theorem c_X9_clear {l : Launch} {D : va_G} {a : Nat → Nat} {g : Nat → ClassId} {S : SZ} {Z1 : SZ} {r1 : Int} (h : f_X9_clear S = some (Z1, r1)) : MetI l D (tysWM g) (WM a g) E0 yX9_clear cX9_clear 2 (some .int) rm_X9_clear [.ref (a 0)] (em S) (em Z1, Int32.ofInt r1) := mk_i (WM_same a g) (by decide) (em Z1, Int32.ofInt r1) (Nat.le_of_ble_eq_true rfl) (fun p e s m args below meth c A Q hc hE hr => t_X9_clear (z := (Z1, r1)) hc hr S h)
theorem k_X9_clear : CalV RX9 yX9_clear cX9_clear 2 (some .int) rm_X9_clear 0 := ⟨q_287, q_288, q_5, q_289, by decide +kernel, rfl, rfl⟩
set_option maxHeartbeats 4000000 in
set_option maxRecDepth 100000 in
theorem t_X9_view_p57 {z : SZ × Int} (hc : Cx p R s m args c D (tysWM g) A (WM a g) cX9_view 5 RX9 1 22) (hr : Rti p l e R s m args below meth c Q D A (WM a g) cX9_view (em z.1, Int32.ofInt z.2)) : ∀ (S : SZ) (v1 : Int) (v2 : Int) (v3 : Int), f_X9_view_p57 S v1 v2 v3 = some z → Go p l e R s m args below meth c Q D A (WM a g) 5 (em S) 57 [(0, .ref (a 0)), (1, .int (Int32.ofInt v1)), (2, .int (Int32.ofInt v2)), (3, .int (Int32.ofInt v3))] [] := by
  obtain ⟨⟨hx, hb, hml, hown, hts⟩, -, -, -, hnf, hno⟩ := id hc
  intro S v1 v2 v3 h H locs ls hP hS hl
  rw [f_X9_view_p57] at h
  refine lv_aload_n hx hb dX9_view_57 rfl (lv_at hl 0 rfl) ?_
  refine lv_iload_n hx hb dX9_view_58 rfl (lv_at hl 1 rfl) ?_
  refine pzWM_HiddenEdgesModel_dx hc hP hS q_302 dX9_view_59 (fun H locs hP hS => ?_)
  obtain ⟨S1, eS1⟩ : ∃ z, z = ui S 3 v1 := ⟨_, rfl⟩
  replace h := olet_at eS1 h
  rw [← eS1] at hP
  refine lv_aload_n hx hb dX9_view_62 rfl (lv_at hl 0 rfl) ?_
  refine lv_iload_n hx hb dX9_view_63 rfl (lv_at hl 2 rfl) ?_
  refine pzWM_HiddenEdgesModel_dy hc hP hS q_303 dX9_view_64 (fun H locs hP hS => ?_)
  obtain ⟨S2, eS2⟩ : ∃ z, z = ui S1 4 v2 := ⟨_, rfl⟩
  replace h := olet_at eS2 h
  rw [← eS2] at hP
  refine lv_aload_n hx hb dX9_view_67 rfl (lv_at hl 0 rfl) ?_
  refine lv_iload_n hx hb dX9_view_68 rfl (lv_at hl 3 rfl) ?_
  refine pzWM_HiddenEdgesModel_dz hc hP hS q_105 dX9_view_69 (fun H locs hP hS => ?_)
  obtain ⟨S3, eS3⟩ : ∃ z, z = ui S2 5 v3 := ⟨_, rfl⟩
  replace h := olet_at eS3 h
  rw [← eS3] at hP
  refine lv_aload_n hx hb dX9_view_72 rfl (lv_at hl 0 rfl) ?_
  refine lv_iconst (v := Int32.ofInt (0 : Int)) hx hb dX9_view_73 (by decide) ?_
  refine pzWM_HiddenEdgesModel_isFound hc hP hS (Or.inl rfl) q_169 dX9_view_74 (fun H locs hP hS => ?_)
  obtain ⟨S4, eS4⟩ : ∃ z, z = ui S3 6 (0 : Int) := ⟨_, rfl⟩
  replace h := olet_at eS4 h
  rw [← eS4] at hP
  refine lv_iconst (v := Int32.ofInt (1 : Int)) hx hb dX9_view_77 (by decide) ?_
  obtain rfl := Option.some.inj h
  exact hr _ _ _ _ dX9_view_78 hP hS
set_option maxHeartbeats 4000000 in
set_option maxRecDepth 100000 in
theorem t_X9_view_p35 {z : SZ × Int} (hc : Cx p R s m args c D (tysWM g) A (WM a g) cX9_view 5 RX9 1 22) (hr : Rti p l e R s m args below meth c Q D A (WM a g) cX9_view (em z.1, Int32.ofInt z.2)) : ∀ (S : SZ) (v1 : Int) (v2 : Int) (v3 : Int) (s0 : Int), f_X9_view_p35 S v1 v2 v3 s0 = some z → Go p l e R s m args below meth c Q D A (WM a g) 5 (em S) 35 [(0, .ref (a 0)), (1, .int (Int32.ofInt v1)), (2, .int (Int32.ofInt v2)), (3, .int (Int32.ofInt v3))] [.int (Int32.ofInt s0)] := by
  obtain ⟨⟨hx, hb, hml, hown, hts⟩, -, -, -, hnf, hno⟩ := id hc
  intro S v1 v2 v3 s0 h H locs ls hP hS hl
  rw [f_X9_view_p35] at h
  refine lv_istore (lv' := [(4, .int (Int32.ofInt s0)), (0, .ref (a 0)), (1, .int (Int32.ofInt v1)), (2, .int (Int32.ofInt v2)), (3, .int (Int32.ofInt v3))]) hx hb dX9_view_35 hl (by decide) rfl (fun ls hl => ?_)
  refine lv_iload hx hb dX9_view_37 (lv_at hl 0 rfl) ?_
  obtain ⟨h1, h⟩ := chk_at h
  refine z_if_eq (tgt := 54) hx hb h1 dX9_view_39 (by decide) (fun hq => ?_) (fun hq => ?_)
  · replace h := if_yes hq h
    refine lv_bipush (v := Int32.ofInt (-2 : Int)) hx hb dX9_view_54 (by decide) ?_
    obtain rfl := Option.some.inj h
    exact hr _ _ _ _ dX9_view_56 hP hS
  · replace h := if_no hq h
    refine lv_iload_n hx hb dX9_view_42 rfl (lv_at hl 2 rfl) ?_
    obtain ⟨h2, h⟩ := chk_at h
    refine z_if_ne (tgt := 57) hx hb h2 dX9_view_43 (by decide) (fun hq => ?_) (fun hq => ?_)
    · replace h := if_no hq h
      exact t_X9_view_p57 hc hr S v1 v2 v3 h H locs ls hP hS (lv_sub hl [1, 2, 3, 4] rfl)
    · replace h := if_yes hq h
      refine lv_iload_n hx hb dX9_view_46 rfl (lv_at hl 3 rfl) ?_
      obtain ⟨h3, h⟩ := chk_at h
      refine z_if_ne (tgt := 57) hx hb h3 dX9_view_47 (by decide) (fun hq => ?_) (fun hq => ?_)
      · replace h := if_no hq h
        exact t_X9_view_p57 hc hr S v1 v2 v3 h H locs ls hP hS (lv_sub hl [1, 2, 3, 4] rfl)
      · replace h := if_yes hq h
        refine lv_iload_n hx hb dX9_view_50 rfl (lv_at hl 4 rfl) ?_
        obtain ⟨h4, h⟩ := chk_at h
        refine z_if_ne (tgt := 57) hx hb h4 dX9_view_51 (by decide) (fun hq => ?_) (fun hq => ?_)
        · replace h := if_no hq h
          exact t_X9_view_p57 hc hr S v1 v2 v3 h H locs ls hP hS (lv_sub hl [1, 2, 3, 4] rfl)
        · replace h := if_yes hq h
          refine lv_bipush (v := Int32.ofInt (-2 : Int)) hx hb dX9_view_54 (by decide) ?_
          obtain rfl := Option.some.inj h
          exact hr _ _ _ _ dX9_view_56 hP hS
set_option maxHeartbeats 4000000 in
set_option maxRecDepth 100000 in
theorem t_X9_view {z : SZ × Int} (hc : Cx p R s m args c D (tysWM g) A (WM a g) cX9_view 5 RX9 1 22) (hr : Rti p l e R s m args below meth c Q D A (WM a g) cX9_view (em z.1, Int32.ofInt z.2)) : ∀ (S : SZ) (v1 : Int) (v2 : Int) (v3 : Int), f_X9_view S v1 v2 v3 = some z → Go p l e R s m args below meth c Q D A (WM a g) 5 (em S) 0 [(0, .ref (a 0)), (1, .int (Int32.ofInt v1)), (2, .int (Int32.ofInt v2)), (3, .int (Int32.ofInt v3))] [] := by
  obtain ⟨⟨hx, hb, hml, hown, hts⟩, -, -, -, hnf, hno⟩ := id hc
  intro S v1 v2 v3 h H locs ls hP hS hl
  rw [f_X9_view] at h
  replace hl : lv_has ls 5 [(0, .ref (a 0)), (1, .int (Int32.ofInt v1)), (2, .int (Int32.ofInt v2)), (3, .int (Int32.ofInt v3))] := hl
  refine lv_iload_n hx hb dX9_view_0 rfl (lv_at hl 1 rfl) ?_
  refine lv_bipush (v := Int32.ofInt (-3 : Int)) hx hb dX9_view_1 (by decide) ?_
  refine lv_iconst (v := Int32.ofInt (3 : Int)) hx hb dX9_view_3 (by decide) ?_
  obtain ⟨S1, x3, hk2, h⟩ := ob2_at h
  refine cl_Si (As := [.int (Int32.ofInt v1), .int (Int32.ofInt (-3 : Int)), .int (Int32.ofInt (3 : Int))]) (rest := []) hc k_X9_within q_158 (c_X9_within hk2) hP hS rfl hl (Nat.le_of_ble_eq_true rfl) dX9_view_4 (Nat.le_of_ble_eq_true rfl) (Nat.le_of_ble_eq_true rfl) rfl (fun H locs hP hS => ?_)
  obtain ⟨h4, h⟩ := chk_at h
  refine z_if_eq (tgt := 34) hx hb h4 dX9_view_7 (by decide) (fun hq => ?_) (fun hq => ?_)
  · replace h := if_yes hq h
    refine lv_iconst (v := Int32.ofInt (0 : Int)) hx hb dX9_view_34 (by decide) ?_
    exact t_X9_view_p35 hc hr S1 v1 v2 v3 (0 : Int) h H locs ls hP hS (lv_sub hl [0, 1, 2, 3] rfl)
  · replace h := if_no hq h
    refine lv_iload_n hx hb dX9_view_10 rfl (lv_at hl 2 rfl) ?_
    refine lv_bipush (v := Int32.ofInt (-3 : Int)) hx hb dX9_view_11 (by decide) ?_
    refine lv_iconst (v := Int32.ofInt (3 : Int)) hx hb dX9_view_13 (by decide) ?_
    obtain ⟨S5, x7, hk6, h⟩ := ob2_at h
    refine cl_Si (As := [.int (Int32.ofInt v2), .int (Int32.ofInt (-3 : Int)), .int (Int32.ofInt (3 : Int))]) (rest := []) hc k_X9_within q_158 (c_X9_within hk6) hP hS rfl hl (Nat.le_of_ble_eq_true rfl) dX9_view_14 (Nat.le_of_ble_eq_true rfl) (Nat.le_of_ble_eq_true rfl) rfl (fun H locs hP hS => ?_)
    obtain ⟨h8, h⟩ := chk_at h
    refine z_if_eq (tgt := 34) hx hb h8 dX9_view_17 (by decide) (fun hq => ?_) (fun hq => ?_)
    · replace h := if_yes hq h
      refine lv_iconst (v := Int32.ofInt (0 : Int)) hx hb dX9_view_34 (by decide) ?_
      exact t_X9_view_p35 hc hr S5 v1 v2 v3 (0 : Int) h H locs ls hP hS (lv_sub hl [0, 1, 2, 3] rfl)
    · replace h := if_no hq h
      refine lv_iload_n hx hb dX9_view_20 rfl (lv_at hl 3 rfl) ?_
      refine lv_bipush (v := Int32.ofInt (-3 : Int)) hx hb dX9_view_21 (by decide) ?_
      refine lv_iconst (v := Int32.ofInt (3 : Int)) hx hb dX9_view_23 (by decide) ?_
      obtain ⟨S9, x11, hk10, h⟩ := ob2_at h
      refine cl_Si (As := [.int (Int32.ofInt v3), .int (Int32.ofInt (-3 : Int)), .int (Int32.ofInt (3 : Int))]) (rest := []) hc k_X9_within q_158 (c_X9_within hk10) hP hS rfl hl (Nat.le_of_ble_eq_true rfl) dX9_view_24 (Nat.le_of_ble_eq_true rfl) (Nat.le_of_ble_eq_true rfl) rfl (fun H locs hP hS => ?_)
      obtain ⟨h12, h⟩ := chk_at h
      refine z_if_eq (tgt := 34) hx hb h12 dX9_view_27 (by decide) (fun hq => ?_) (fun hq => ?_)
      · replace h := if_yes hq h
        refine lv_iconst (v := Int32.ofInt (0 : Int)) hx hb dX9_view_34 (by decide) ?_
        exact t_X9_view_p35 hc hr S9 v1 v2 v3 (0 : Int) h H locs ls hP hS (lv_sub hl [0, 1, 2, 3] rfl)
      · replace h := if_no hq h
        refine lv_iconst (v := Int32.ofInt (1 : Int)) hx hb dX9_view_30 (by decide) ?_
        refine lv_goto (tgt := 35) hx hb dX9_view_31 (by decide) ?_
        exact t_X9_view_p35 hc hr S9 v1 v2 v3 (1 : Int) h H locs ls hP hS (lv_sub hl [0, 1, 2, 3] rfl)
abbrev rm_X9_view : Room := { frames := 1, cells := 0, slots := 0, locals := 22 }
theorem c_X9_view {l : Launch} {D : va_G} {a : Nat → Nat} {g : Nat → ClassId} {S : SZ} {v1 : Int} {v2 : Int} {v3 : Int} {Z1 : SZ} {r1 : Int} (h : f_X9_view S v1 v2 v3 = some (Z1, r1)) : MetI l D (tysWM g) (WM a g) E0 yX9_view cX9_view 5 (some .int) rm_X9_view [.ref (a 0), .int (Int32.ofInt v1), .int (Int32.ofInt v2), .int (Int32.ofInt v3)] (em S) (em Z1, Int32.ofInt r1) := mk_i (WM_same a g) (by decide) (em Z1, Int32.ofInt r1) (Nat.le_of_ble_eq_true rfl) (fun p e s m args below meth c A Q hc hE hr => t_X9_view (z := (Z1, r1)) hc hr S v1 v2 v3 h)
theorem k_X9_view : CalV RX9 yX9_view cX9_view 5 (some .int) rm_X9_view 3 := ⟨q_299, q_300, q_5, q_301, by decide +kernel, rfl, rfl⟩
set_option maxHeartbeats 4000000 in
set_option maxRecDepth 100000 in
theorem t_X9_turn_p143 {z : SZ × Int} (hc : Cx p R s m args c D (tysWM g) A (WM a g) cX9_turn 7 RX9 1 22) (hr : Rti p l e R s m args below meth c Q D A (WM a g) cX9_turn (em z.1, Int32.ofInt z.2)) {k16 : SZ → Int → Int → Int → Option (SZ × Int)} (K16 : ∀ (S : SZ) (v1 : Int) (v2 : Int) (v3 : Int), k16 S v1 v2 v3 = some z → Go p l e R s m args below meth c Q D A (WM a g) 7 (em S) 16 [(0, .ref (a 0)), (1, .int (Int32.ofInt v1)), (2, .int (Int32.ofInt v2)), (3, .int (Int32.ofInt v3))] []) : ∀ (S : SZ) (v1 : Int) (v2 : Int) (v3 : Int) (v4 : Int) (v5 : Int) (v6 : Int) (s1 : Int) (s2 : Int), f_X9_turn_p143 k16 S v1 v2 v3 v4 v5 v6 s1 s2 = some z → Go p l e R s m args below meth c Q D A (WM a g) 7 (em S) 143 [(0, .ref (a 0)), (1, .int (Int32.ofInt v1)), (2, .int (Int32.ofInt v2)), (3, .int (Int32.ofInt v3)), (4, .int (Int32.ofInt v4)), (5, .int (Int32.ofInt v5)), (6, .int (Int32.ofInt v6))] [.int (Int32.ofInt s2), .int (Int32.ofInt s1), .ref (a 3)] := by
  obtain ⟨⟨hx, hb, hml, hown, hts⟩, -, -, -, hnf, hno⟩ := id hc
  intro S v1 v2 v3 v4 v5 v6 s1 s2 h H locs ls hP hS hl
  rw [f_X9_turn_p143] at h
  obtain ⟨h1, h⟩ := chk_at h
  refine szWM_HiddenEdgesModel_zOf hc hP hS h1 dX9_turn_143 (fun H locs hP hS => ?_)
  obtain ⟨S2, eS2⟩ : ∃ z, z = ua S 2 (s1).toNat s2 := ⟨_, rfl⟩
  replace h := olet_at eS2 h
  rw [← eS2] at hP
  refine lv_iload_n hx hb dX9_turn_144 rfl (lv_at hl 2 rfl) ?_
  refine lv_iload hx hb dX9_turn_145 (lv_at hl 4 rfl) ?_
  refine lv_aload_n hx hb dX9_turn_147 rfl (lv_at hl 0 rfl) ?_
  refine gfWM_HiddenEdgesModel_xOf hc hP q_99 dX9_turn_148 ?_
  refine lv_iload_n hx hb dX9_turn_151 rfl (lv_at hl 3 rfl) ?_
  obtain ⟨h3, h⟩ := chk_at h
  refine azWM_HiddenEdgesModel_xOf hc hP h3 dX9_turn_152 ?_
  obtain ⟨h4, h⟩ := chk_at h
  obtain ⟨h5, h⟩ := chk_at h
  refine z_icmp_ne (tgt := 182) hx hb h4 h5 dX9_turn_153 (by decide) (fun hq => ?_) (fun hq => ?_)
  · replace h := if_no hq h
    refine lv_iconst (v := Int32.ofInt (1 : Int)) hx hb dX9_turn_182 (by decide) ?_
    refine z_iadd hx hb dX9_turn_183 ?_
    refine z_topi (fun x6 ex6 => ?_)
    replace h := olet_at ex6 h
    refine lv_istore_n (lv' := [(2, .int (Int32.ofInt x6)), (0, .ref (a 0)), (1, .int (Int32.ofInt v1)), (3, .int (Int32.ofInt v3)), (4, .int (Int32.ofInt v4)), (5, .int (Int32.ofInt v5)), (6, .int (Int32.ofInt v6))]) hx hb dX9_turn_184 rfl hl (by decide) rfl (fun ls hl => ?_)
    obtain ⟨x7, ex7⟩ : ∃ y : Int, y = v3 + (1 : Int) := ⟨_, rfl⟩
    replace h := olet_at ex7 h
    refine lv_iinc (v := Int32.ofInt x7) (lv' := [(3, .int (Int32.ofInt x7)), (2, .int (Int32.ofInt x6)), (0, .ref (a 0)), (1, .int (Int32.ofInt v1)), (4, .int (Int32.ofInt v4)), (5, .int (Int32.ofInt v5)), (6, .int (Int32.ofInt v6))]) hx hb dX9_turn_185 hl (k := 3) rfl (by rw [ex7, Int32.ofInt_add]) (by decide) rfl (fun ls hl => ?_)
    refine lv_goto (tgt := 16) hx hb dX9_turn_188 (by decide) ?_
    exact K16 S2 v1 x6 x7 h H locs ls hP hS (lv_sub hl [2, 3, 1, 0] rfl)
  · replace h := if_yes hq h
    refine lv_iload hx hb dX9_turn_156 (lv_at hl 5 rfl) ?_
    refine lv_aload_n hx hb dX9_turn_158 rfl (lv_at hl 0 rfl) ?_
    refine gfWM_HiddenEdgesModel_yOf hc hP q_100 dX9_turn_159 ?_
    refine lv_iload_n hx hb dX9_turn_162 rfl (lv_at hl 3 rfl) ?_
    refine azWM_HiddenEdgesModel_yOf hc hP h3 dX9_turn_163 ?_
    obtain ⟨h8, h⟩ := chk_at h
    obtain ⟨h9, h⟩ := chk_at h
    refine z_icmp_ne (tgt := 182) hx hb h8 h9 dX9_turn_164 (by decide) (fun hq => ?_) (fun hq => ?_)
    · replace h := if_no hq h
      refine lv_iconst (v := Int32.ofInt (1 : Int)) hx hb dX9_turn_182 (by decide) ?_
      refine z_iadd hx hb dX9_turn_183 ?_
      refine z_topi (fun x10 ex10 => ?_)
      replace h := olet_at ex10 h
      refine lv_istore_n (lv' := [(2, .int (Int32.ofInt x10)), (0, .ref (a 0)), (1, .int (Int32.ofInt v1)), (3, .int (Int32.ofInt v3)), (4, .int (Int32.ofInt v4)), (5, .int (Int32.ofInt v5)), (6, .int (Int32.ofInt v6))]) hx hb dX9_turn_184 rfl hl (by decide) rfl (fun ls hl => ?_)
      obtain ⟨x11, ex11⟩ : ∃ y : Int, y = v3 + (1 : Int) := ⟨_, rfl⟩
      replace h := olet_at ex11 h
      refine lv_iinc (v := Int32.ofInt x11) (lv' := [(3, .int (Int32.ofInt x11)), (2, .int (Int32.ofInt x10)), (0, .ref (a 0)), (1, .int (Int32.ofInt v1)), (4, .int (Int32.ofInt v4)), (5, .int (Int32.ofInt v5)), (6, .int (Int32.ofInt v6))]) hx hb dX9_turn_185 hl (k := 3) rfl (by rw [ex11, Int32.ofInt_add]) (by decide) rfl (fun ls hl => ?_)
      refine lv_goto (tgt := 16) hx hb dX9_turn_188 (by decide) ?_
      exact K16 S2 v1 x10 x11 h H locs ls hP hS (lv_sub hl [2, 3, 1, 0] rfl)
    · replace h := if_yes hq h
      refine lv_iload hx hb dX9_turn_167 (lv_at hl 6 rfl) ?_
      refine lv_aload_n hx hb dX9_turn_169 rfl (lv_at hl 0 rfl) ?_
      refine gfWM_HiddenEdgesModel_zOf hc hP q_101 dX9_turn_170 ?_
      refine lv_iload_n hx hb dX9_turn_173 rfl (lv_at hl 3 rfl) ?_
      refine azWM_HiddenEdgesModel_zOf hc hP h3 dX9_turn_174 ?_
      obtain ⟨h12, h⟩ := chk_at h
      obtain ⟨h13, h⟩ := chk_at h
      refine z_icmp_ne (tgt := 182) hx hb h12 h13 dX9_turn_175 (by decide) (fun hq => ?_) (fun hq => ?_)
      · replace h := if_no hq h
        refine lv_iconst (v := Int32.ofInt (1 : Int)) hx hb dX9_turn_182 (by decide) ?_
        refine z_iadd hx hb dX9_turn_183 ?_
        refine z_topi (fun x14 ex14 => ?_)
        replace h := olet_at ex14 h
        refine lv_istore_n (lv' := [(2, .int (Int32.ofInt x14)), (0, .ref (a 0)), (1, .int (Int32.ofInt v1)), (3, .int (Int32.ofInt v3)), (4, .int (Int32.ofInt v4)), (5, .int (Int32.ofInt v5)), (6, .int (Int32.ofInt v6))]) hx hb dX9_turn_184 rfl hl (by decide) rfl (fun ls hl => ?_)
        obtain ⟨x15, ex15⟩ : ∃ y : Int, y = v3 + (1 : Int) := ⟨_, rfl⟩
        replace h := olet_at ex15 h
        refine lv_iinc (v := Int32.ofInt x15) (lv' := [(3, .int (Int32.ofInt x15)), (2, .int (Int32.ofInt x14)), (0, .ref (a 0)), (1, .int (Int32.ofInt v1)), (4, .int (Int32.ofInt v4)), (5, .int (Int32.ofInt v5)), (6, .int (Int32.ofInt v6))]) hx hb dX9_turn_185 hl (k := 3) rfl (by rw [ex15, Int32.ofInt_add]) (by decide) rfl (fun ls hl => ?_)
        refine lv_goto (tgt := 16) hx hb dX9_turn_188 (by decide) ?_
        exact K16 S2 v1 x14 x15 h H locs ls hP hS (lv_sub hl [2, 3, 1, 0] rfl)
      · replace h := if_yes hq h
        refine lv_iconst (v := Int32.ofInt (0 : Int)) hx hb dX9_turn_178 (by decide) ?_
        refine lv_goto (tgt := 183) hx hb dX9_turn_179 (by decide) ?_
        refine z_iadd hx hb dX9_turn_183 ?_
        refine z_topi (fun x16 ex16 => ?_)
        replace h := olet_at ex16 h
        refine lv_istore_n (lv' := [(2, .int (Int32.ofInt x16)), (0, .ref (a 0)), (1, .int (Int32.ofInt v1)), (3, .int (Int32.ofInt v3)), (4, .int (Int32.ofInt v4)), (5, .int (Int32.ofInt v5)), (6, .int (Int32.ofInt v6))]) hx hb dX9_turn_184 rfl hl (by decide) rfl (fun ls hl => ?_)
        obtain ⟨x17, ex17⟩ : ∃ y : Int, y = v3 + (1 : Int) := ⟨_, rfl⟩
        replace h := olet_at ex17 h
        refine lv_iinc (v := Int32.ofInt x17) (lv' := [(3, .int (Int32.ofInt x17)), (2, .int (Int32.ofInt x16)), (0, .ref (a 0)), (1, .int (Int32.ofInt v1)), (4, .int (Int32.ofInt v4)), (5, .int (Int32.ofInt v5)), (6, .int (Int32.ofInt v6))]) hx hb dX9_turn_185 hl (k := 3) rfl (by rw [ex17, Int32.ofInt_add]) (by decide) rfl (fun ls hl => ?_)
        refine lv_goto (tgt := 16) hx hb dX9_turn_188 (by decide) ?_
        exact K16 S2 v1 x16 x17 h H locs ls hP hS (lv_sub hl [2, 3, 1, 0] rfl)
set_option maxHeartbeats 4000000 in
set_option maxRecDepth 100000 in
theorem t_X9_turn_p104 {z : SZ × Int} (hc : Cx p R s m args c D (tysWM g) A (WM a g) cX9_turn 7 RX9 1 22) (hr : Rti p l e R s m args below meth c Q D A (WM a g) cX9_turn (em z.1, Int32.ofInt z.2)) {k16 : SZ → Int → Int → Int → Option (SZ × Int)} (K16 : ∀ (S : SZ) (v1 : Int) (v2 : Int) (v3 : Int), k16 S v1 v2 v3 = some z → Go p l e R s m args below meth c Q D A (WM a g) 7 (em S) 16 [(0, .ref (a 0)), (1, .int (Int32.ofInt v1)), (2, .int (Int32.ofInt v2)), (3, .int (Int32.ofInt v3))] []) : ∀ (S : SZ) (v1 : Int) (v2 : Int) (v3 : Int) (v4 : Int) (v5 : Int) (v6 : Int) (s1 : Int) (s2 : Int), f_X9_turn_p104 k16 S v1 v2 v3 v4 v5 v6 s1 s2 = some z → Go p l e R s m args below meth c Q D A (WM a g) 7 (em S) 104 [(0, .ref (a 0)), (1, .int (Int32.ofInt v1)), (2, .int (Int32.ofInt v2)), (3, .int (Int32.ofInt v3)), (4, .int (Int32.ofInt v4)), (5, .int (Int32.ofInt v5)), (6, .int (Int32.ofInt v6))] [.int (Int32.ofInt s2), .int (Int32.ofInt s1), .ref (a 2)] := by
  obtain ⟨⟨hx, hb, hml, hown, hts⟩, -, -, -, hnf, hno⟩ := id hc
  intro S v1 v2 v3 v4 v5 v6 s1 s2 h H locs ls hP hS hl
  rw [f_X9_turn_p104] at h
  obtain ⟨h1, h⟩ := chk_at h
  refine szWM_HiddenEdgesModel_yOf hc hP hS h1 dX9_turn_104 (fun H locs hP hS => ?_)
  obtain ⟨S2, eS2⟩ : ∃ z, z = ua S 1 (s1).toNat s2 := ⟨_, rfl⟩
  replace h := olet_at eS2 h
  rw [← eS2] at hP
  refine lv_aload_n hx hb dX9_turn_105 rfl (lv_at hl 0 rfl) ?_
  refine gfWM_HiddenEdgesModel_zOf hc hP q_101 dX9_turn_106 ?_
  refine lv_iload_n hx hb dX9_turn_109 rfl (lv_at hl 3 rfl) ?_
  refine lv_iload_n hx hb dX9_turn_110 rfl (lv_at hl 1 rfl) ?_
  obtain ⟨h3, h⟩ := chk_at h
  refine z_if_ne (tgt := 119) hx hb h3 dX9_turn_111 (by decide) (fun hq => ?_) (fun hq => ?_)
  · replace h := if_no hq h
    refine lv_iload_n hx hb dX9_turn_119 rfl (lv_at hl 1 rfl) ?_
    refine lv_iconst (v := Int32.ofInt (1 : Int)) hx hb dX9_turn_120 (by decide) ?_
    refine z_icmp_ne (tgt := 130) hx hb h3 (by decide) dX9_turn_121 (by decide) (fun hq => ?_) (fun hq => ?_)
    · replace h := if_no hq h
      refine lv_iload_n hx hb dX9_turn_130 rfl (lv_at hl 1 rfl) ?_
      refine lv_iconst (v := Int32.ofInt (3 : Int)) hx hb dX9_turn_131 (by decide) ?_
      refine z_icmp_ne (tgt := 141) hx hb h3 (by decide) dX9_turn_132 (by decide) (fun hq => ?_) (fun hq => ?_)
      · replace h := if_no hq h
        refine lv_iload hx hb dX9_turn_141 (lv_at hl 6 rfl) ?_
        exact t_X9_turn_p143 hc hr K16 S2 v1 v2 v3 v4 v5 v6 v3 v6 h H locs ls hP hS (lv_sub hl [0, 1, 2, 3, 4, 5, 6] rfl)
      · replace h := if_yes hq h
        refine lv_iload hx hb dX9_turn_135 (lv_at hl 6 rfl) ?_
        refine z_ineg hx hb dX9_turn_137 ?_
        refine lv_goto (tgt := 143) hx hb dX9_turn_138 (by decide) ?_
        exact t_X9_turn_p143 hc hr K16 S2 v1 v2 v3 v4 v5 v6 v3 (-v6) h H locs ls hP hS (lv_sub hl [0, 1, 2, 3, 4, 5, 6] rfl)
    · replace h := if_yes hq h
      refine lv_iload hx hb dX9_turn_124 (lv_at hl 4 rfl) ?_
      refine z_ineg hx hb dX9_turn_126 ?_
      refine lv_goto (tgt := 143) hx hb dX9_turn_127 (by decide) ?_
      exact t_X9_turn_p143 hc hr K16 S2 v1 v2 v3 v4 v5 v6 v3 (-v4) h H locs ls hP hS (lv_sub hl [0, 1, 2, 3, 4, 5, 6] rfl)
  · replace h := if_yes hq h
    refine lv_iload hx hb dX9_turn_114 (lv_at hl 5 rfl) ?_
    refine lv_goto (tgt := 143) hx hb dX9_turn_116 (by decide) ?_
    exact t_X9_turn_p143 hc hr K16 S2 v1 v2 v3 v4 v5 v6 v3 v5 h H locs ls hP hS (lv_sub hl [0, 1, 2, 3, 4, 5, 6] rfl)
set_option maxHeartbeats 4000000 in
set_option maxRecDepth 100000 in
theorem t_X9_turn_p76 {z : SZ × Int} (hc : Cx p R s m args c D (tysWM g) A (WM a g) cX9_turn 7 RX9 1 22) (hr : Rti p l e R s m args below meth c Q D A (WM a g) cX9_turn (em z.1, Int32.ofInt z.2)) {k16 : SZ → Int → Int → Int → Option (SZ × Int)} (K16 : ∀ (S : SZ) (v1 : Int) (v2 : Int) (v3 : Int), k16 S v1 v2 v3 = some z → Go p l e R s m args below meth c Q D A (WM a g) 7 (em S) 16 [(0, .ref (a 0)), (1, .int (Int32.ofInt v1)), (2, .int (Int32.ofInt v2)), (3, .int (Int32.ofInt v3))] []) : ∀ (S : SZ) (v1 : Int) (v2 : Int) (v3 : Int) (v4 : Int) (v5 : Int) (v6 : Int) (s1 : Int) (s2 : Int), f_X9_turn_p76 k16 S v1 v2 v3 v4 v5 v6 s1 s2 = some z → Go p l e R s m args below meth c Q D A (WM a g) 7 (em S) 76 [(0, .ref (a 0)), (1, .int (Int32.ofInt v1)), (2, .int (Int32.ofInt v2)), (3, .int (Int32.ofInt v3)), (4, .int (Int32.ofInt v4)), (5, .int (Int32.ofInt v5)), (6, .int (Int32.ofInt v6))] [.int (Int32.ofInt s2), .int (Int32.ofInt s1), .ref (a 1)] := by
  obtain ⟨⟨hx, hb, hml, hown, hts⟩, -, -, -, hnf, hno⟩ := id hc
  intro S v1 v2 v3 v4 v5 v6 s1 s2 h H locs ls hP hS hl
  rw [f_X9_turn_p76] at h
  obtain ⟨h1, h⟩ := chk_at h
  refine szWM_HiddenEdgesModel_xOf hc hP hS h1 dX9_turn_76 (fun H locs hP hS => ?_)
  obtain ⟨S2, eS2⟩ : ∃ z, z = ua S 0 (s1).toNat s2 := ⟨_, rfl⟩
  replace h := olet_at eS2 h
  rw [← eS2] at hP
  refine lv_aload_n hx hb dX9_turn_77 rfl (lv_at hl 0 rfl) ?_
  refine gfWM_HiddenEdgesModel_yOf hc hP q_100 dX9_turn_78 ?_
  refine lv_iload_n hx hb dX9_turn_81 rfl (lv_at hl 3 rfl) ?_
  refine lv_iload_n hx hb dX9_turn_82 rfl (lv_at hl 1 rfl) ?_
  obtain ⟨h3, h⟩ := chk_at h
  refine z_if_ne (tgt := 92) hx hb h3 dX9_turn_83 (by decide) (fun hq => ?_) (fun hq => ?_)
  · replace h := if_no hq h
    refine lv_iload_n hx hb dX9_turn_92 rfl (lv_at hl 1 rfl) ?_
    refine lv_iconst (v := Int32.ofInt (2 : Int)) hx hb dX9_turn_93 (by decide) ?_
    refine z_icmp_ne (tgt := 102) hx hb h3 (by decide) dX9_turn_94 (by decide) (fun hq => ?_) (fun hq => ?_)
    · replace h := if_no hq h
      refine lv_iload hx hb dX9_turn_102 (lv_at hl 5 rfl) ?_
      exact t_X9_turn_p104 hc hr K16 S2 v1 v2 v3 v4 v5 v6 v3 v5 h H locs ls hP hS (lv_sub hl [0, 1, 2, 3, 4, 5, 6] rfl)
    · replace h := if_yes hq h
      refine lv_iload hx hb dX9_turn_97 (lv_at hl 4 rfl) ?_
      refine lv_goto (tgt := 104) hx hb dX9_turn_99 (by decide) ?_
      exact t_X9_turn_p104 hc hr K16 S2 v1 v2 v3 v4 v5 v6 v3 v4 h H locs ls hP hS (lv_sub hl [0, 1, 2, 3, 4, 5, 6] rfl)
  · replace h := if_yes hq h
    refine lv_iload hx hb dX9_turn_86 (lv_at hl 6 rfl) ?_
    refine z_ineg hx hb dX9_turn_88 ?_
    refine lv_goto (tgt := 104) hx hb dX9_turn_89 (by decide) ?_
    exact t_X9_turn_p104 hc hr K16 S2 v1 v2 v3 v4 v5 v6 v3 (-v6) h H locs ls hP hS (lv_sub hl [0, 1, 2, 3, 4, 5, 6] rfl)
set_option maxHeartbeats 4000000 in
set_option maxRecDepth 100000 in
theorem t_X9_turn_p16 {z : SZ × Int} (hc : Cx p R s m args c D (tysWM g) A (WM a g) cX9_turn 7 RX9 1 22) (hr : Rti p l e R s m args below meth c Q D A (WM a g) cX9_turn (em z.1, Int32.ofInt z.2)) : ∀ (fu : Nat) (S : SZ) (v1 : Int) (v2 : Int) (v3 : Int), f_X9_turn_p16 fu S v1 v2 v3 = some z → Go p l e R s m args below meth c Q D A (WM a g) 7 (em S) 16 [(0, .ref (a 0)), (1, .int (Int32.ofInt v1)), (2, .int (Int32.ofInt v2)), (3, .int (Int32.ofInt v3))] [] := by
  obtain ⟨⟨hx, hb, hml, hown, hts⟩, -, -, -, hnf, hno⟩ := id hc
  intro fu
  induction fu with
  | zero =>
    intro S v1 v2 v3 h
    rw [f_X9_turn_p16] at h
    cases h
  | succ fu ih =>
    intro S v1 v2 v3 h H locs ls hP hS hl
    rw [f_X9_turn_p16] at h
    refine lv_iload_n hx hb dX9_turn_16 rfl (lv_at hl 3 rfl) ?_
    refine lv_aload_n hx hb dX9_turn_17 rfl (lv_at hl 0 rfl) ?_
    refine gzWM_HiddenEdgesModel_points hc hP q_154 dX9_turn_18 ?_
    obtain ⟨h1, h⟩ := chk_at h
    obtain ⟨h2, h⟩ := chk_at h
    refine z_icmp_ge (tgt := 191) hx hb h1 h2 dX9_turn_21 (by decide) (fun hq => ?_) (fun hq => ?_)
    · replace h := if_yes hq h
      refine lv_aload_n hx hb dX9_turn_191 rfl (lv_at hl 0 rfl) ?_
      refine lv_iconst (v := Int32.ofInt (0 : Int)) hx hb dX9_turn_192 (by decide) ?_
      refine pzWM_HiddenEdgesModel_isFound hc hP hS (Or.inl rfl) q_169 dX9_turn_193 (fun H locs hP hS => ?_)
      obtain ⟨S3, eS3⟩ : ∃ z, z = ui S 6 (0 : Int) := ⟨_, rfl⟩
      replace h := olet_at eS3 h
      rw [← eS3] at hP
      refine lv_iload_n hx hb dX9_turn_196 rfl (lv_at hl 2 rfl) ?_
      obtain rfl := Option.some.inj h
      exact hr _ _ _ _ dX9_turn_197 hP hS
    · replace h := if_no hq h
      refine lv_aload_n hx hb dX9_turn_24 rfl (lv_at hl 0 rfl) ?_
      refine gfWM_HiddenEdgesModel_xOf hc hP q_99 dX9_turn_25 ?_
      refine lv_iload_n hx hb dX9_turn_28 rfl (lv_at hl 3 rfl) ?_
      obtain ⟨h4, h⟩ := chk_at h
      refine azWM_HiddenEdgesModel_xOf hc hP h4 dX9_turn_29 ?_
      refine z_topi (fun x5 ex5 => ?_)
      replace h := olet_at ex5 h
      refine lv_istore (lv' := [(4, .int (Int32.ofInt x5)), (0, .ref (a 0)), (1, .int (Int32.ofInt v1)), (2, .int (Int32.ofInt v2)), (3, .int (Int32.ofInt v3))]) hx hb dX9_turn_30 hl (by decide) rfl (fun ls hl => ?_)
      refine lv_aload_n hx hb dX9_turn_32 rfl (lv_at hl 1 rfl) ?_
      refine gfWM_HiddenEdgesModel_yOf hc hP q_100 dX9_turn_33 ?_
      refine lv_iload_n hx hb dX9_turn_36 rfl (lv_at hl 4 rfl) ?_
      refine azWM_HiddenEdgesModel_yOf hc hP h4 dX9_turn_37 ?_
      refine z_topi (fun x6 ex6 => ?_)
      replace h := olet_at ex6 h
      refine lv_istore (lv' := [(5, .int (Int32.ofInt x6)), (4, .int (Int32.ofInt x5)), (0, .ref (a 0)), (1, .int (Int32.ofInt v1)), (2, .int (Int32.ofInt v2)), (3, .int (Int32.ofInt v3))]) hx hb dX9_turn_38 hl (by decide) rfl (fun ls hl => ?_)
      refine lv_aload_n hx hb dX9_turn_40 rfl (lv_at hl 2 rfl) ?_
      refine gfWM_HiddenEdgesModel_zOf hc hP q_101 dX9_turn_41 ?_
      refine lv_iload_n hx hb dX9_turn_44 rfl (lv_at hl 5 rfl) ?_
      refine azWM_HiddenEdgesModel_zOf hc hP h4 dX9_turn_45 ?_
      refine z_topi (fun x7 ex7 => ?_)
      replace h := olet_at ex7 h
      refine lv_istore (lv' := [(6, .int (Int32.ofInt x7)), (5, .int (Int32.ofInt x6)), (4, .int (Int32.ofInt x5)), (0, .ref (a 0)), (1, .int (Int32.ofInt v1)), (2, .int (Int32.ofInt v2)), (3, .int (Int32.ofInt v3))]) hx hb dX9_turn_46 hl (by decide) rfl (fun ls hl => ?_)
      refine lv_aload_n hx hb dX9_turn_48 rfl (lv_at hl 3 rfl) ?_
      refine gfWM_HiddenEdgesModel_xOf hc hP q_99 dX9_turn_49 ?_
      refine lv_iload_n hx hb dX9_turn_52 rfl (lv_at hl 6 rfl) ?_
      refine lv_iload_n hx hb dX9_turn_53 rfl (lv_at hl 4 rfl) ?_
      refine lv_iconst (v := Int32.ofInt (1 : Int)) hx hb dX9_turn_54 (by decide) ?_
      obtain ⟨h8, h⟩ := chk_at h
      refine z_icmp_ne (tgt := 63) hx hb h8 (by decide) dX9_turn_55 (by decide) (fun hq => ?_) (fun hq => ?_)
      · replace h := if_no hq h
        refine lv_iload_n hx hb dX9_turn_63 rfl (lv_at hl 4 rfl) ?_
        refine lv_iconst (v := Int32.ofInt (2 : Int)) hx hb dX9_turn_64 (by decide) ?_
        refine z_icmp_ne (tgt := 74) hx hb h8 (by decide) dX9_turn_65 (by decide) (fun hq => ?_) (fun hq => ?_)
        · replace h := if_no hq h
          refine lv_iload hx hb dX9_turn_74 (lv_at hl 2 rfl) ?_
          exact t_X9_turn_p76 hc hr ih S v1 v2 v3 x5 x6 x7 v3 x5 h H locs ls hP hS (lv_sub hl [3, 4, 5, 6, 2, 1, 0] rfl)
        · replace h := if_yes hq h
          refine lv_iload hx hb dX9_turn_68 (lv_at hl 1 rfl) ?_
          refine z_ineg hx hb dX9_turn_70 ?_
          refine lv_goto (tgt := 76) hx hb dX9_turn_71 (by decide) ?_
          exact t_X9_turn_p76 hc hr ih S v1 v2 v3 x5 x6 x7 v3 (-x6) h H locs ls hP hS (lv_sub hl [3, 4, 5, 6, 2, 1, 0] rfl)
      · replace h := if_yes hq h
        refine lv_iload hx hb dX9_turn_58 (lv_at hl 0 rfl) ?_
        refine lv_goto (tgt := 76) hx hb dX9_turn_60 (by decide) ?_
        exact t_X9_turn_p76 hc hr ih S v1 v2 v3 x5 x6 x7 v3 x7 h H locs ls hP hS (lv_sub hl [3, 4, 5, 6, 2, 1, 0] rfl)
set_option maxHeartbeats 4000000 in
set_option maxRecDepth 100000 in
theorem t_X9_turn {z : SZ × Int} (hc : Cx p R s m args c D (tysWM g) A (WM a g) cX9_turn 7 RX9 1 22) (hr : Rti p l e R s m args below meth c Q D A (WM a g) cX9_turn (em z.1, Int32.ofInt z.2)) : ∀ (S : SZ) (v1 : Int), f_X9_turn S v1 = some z → Go p l e R s m args below meth c Q D A (WM a g) 7 (em S) 0 [(0, .ref (a 0)), (1, .int (Int32.ofInt v1))] [] := by
  obtain ⟨⟨hx, hb, hml, hown, hts⟩, -, -, -, hnf, hno⟩ := id hc
  intro S v1 h H locs ls hP hS hl
  rw [f_X9_turn] at h
  replace hl : lv_has ls 7 [(0, .ref (a 0)), (1, .int (Int32.ofInt v1))] := hl
  refine lv_iload_n hx hb dX9_turn_0 rfl (lv_at hl 1 rfl) ?_
  refine lv_iconst (v := Int32.ofInt (0 : Int)) hx hb dX9_turn_1 (by decide) ?_
  refine lv_iconst (v := Int32.ofInt (3 : Int)) hx hb dX9_turn_2 (by decide) ?_
  obtain ⟨S1, x3, hk2, h⟩ := ob2_at h
  refine cl_Si (As := [.int (Int32.ofInt v1), .int (Int32.ofInt (0 : Int)), .int (Int32.ofInt (3 : Int))]) (rest := []) hc k_X9_within q_158 (c_X9_within hk2) hP hS rfl hl (Nat.le_of_ble_eq_true rfl) dX9_turn_3 (Nat.le_of_ble_eq_true rfl) (Nat.le_of_ble_eq_true rfl) rfl (fun H locs hP hS => ?_)
  obtain ⟨h4, h⟩ := chk_at h
  refine z_if_ne (tgt := 12) hx hb h4 dX9_turn_6 (by decide) (fun hq => ?_) (fun hq => ?_)
  · replace h := if_no hq h
    refine lv_iconst (v := Int32.ofInt (0 : Int)) hx hb dX9_turn_12 (by decide) ?_
    refine lv_istore_n (lv' := [(2, .int (Int32.ofInt (0 : Int))), (0, .ref (a 0)), (1, .int (Int32.ofInt v1))]) hx hb dX9_turn_13 rfl hl (by decide) rfl (fun ls hl => ?_)
    refine lv_iconst (v := Int32.ofInt (0 : Int)) hx hb dX9_turn_14 (by decide) ?_
    refine lv_istore_n (lv' := [(3, .int (Int32.ofInt (0 : Int))), (2, .int (Int32.ofInt (0 : Int))), (0, .ref (a 0)), (1, .int (Int32.ofInt v1))]) hx hb dX9_turn_15 rfl hl (by decide) rfl (fun ls hl => ?_)
    exact t_X9_turn_p16 hc hr FU S1 v1 (0 : Int) (0 : Int) h H locs ls hP hS (lv_sub hl [2, 3, 1, 0] rfl)
  · replace h := if_yes hq h
    refine lv_bipush (v := Int32.ofInt (-2 : Int)) hx hb dX9_turn_9 (by decide) ?_
    obtain rfl := Option.some.inj h
    exact hr _ _ _ _ dX9_turn_11 hP hS
abbrev rm_X9_turn : Room := { frames := 1, cells := 0, slots := 0, locals := 22 }
theorem c_X9_turn {l : Launch} {D : va_G} {a : Nat → Nat} {g : Nat → ClassId} {S : SZ} {v1 : Int} {Z1 : SZ} {r1 : Int} (h : f_X9_turn S v1 = some (Z1, r1)) : MetI l D (tysWM g) (WM a g) E0 yX9_turn cX9_turn 7 (some .int) rm_X9_turn [.ref (a 0), .int (Int32.ofInt v1)] (em S) (em Z1, Int32.ofInt r1) := mk_i (WM_same a g) (by decide) (em Z1, Int32.ofInt r1) (Nat.le_of_ble_eq_true rfl) (fun p e s m args below meth c A Q hc hE hr => t_X9_turn (z := (Z1, r1)) hc hr S v1 h)
theorem k_X9_turn : CalV RX9 yX9_turn cX9_turn 7 (some .int) rm_X9_turn 1 := ⟨q_313, q_314, q_5, q_315, by decide +kernel, rfl, rfl⟩
set_option maxHeartbeats 4000000 in
set_option maxRecDepth 100000 in
theorem t_X9_move_p93 {z : SZ × Int} (hc : Cx p R s m args c D (tysWM g) A (WM a g) cX9_move 5 RX9 2 44) (hr : Rti p l e R s m args below meth c Q D A (WM a g) cX9_move (em z.1, Int32.ofInt z.2)) : ∀ (fu : Nat) (S : SZ) (v1 : Int) (v2 : Int) (v3 : Int) (v4 : Int), f_X9_move_p93 fu S v1 v2 v3 v4 = some z → Go p l e R s m args below meth c Q D A (WM a g) 5 (em S) 93 [(0, .ref (a 0)), (1, .int (Int32.ofInt v1)), (2, .int (Int32.ofInt v2)), (3, .int (Int32.ofInt v3)), (4, .int (Int32.ofInt v4))] [] := by
  obtain ⟨⟨hx, hb, hml, hown, hts⟩, -, -, -, hnf, hno⟩ := id hc
  intro fu
  induction fu with
  | zero =>
    intro S v1 v2 v3 v4 h
    rw [f_X9_move_p93] at h
    cases h
  | succ fu ih =>
    intro S v1 v2 v3 v4 h H locs ls hP hS hl
    rw [f_X9_move_p93] at h
    refine lv_iload hx hb dX9_move_93 (lv_at hl 4 rfl) ?_
    refine lv_aload_n hx hb dX9_move_95 rfl (lv_at hl 0 rfl) ?_
    refine gzWM_HiddenEdgesModel_points hc hP q_154 dX9_move_96 ?_
    obtain ⟨h1, h⟩ := chk_at h
    obtain ⟨h2, h⟩ := chk_at h
    refine z_icmp_ge (tgt := 141) hx hb h1 h2 dX9_move_99 (by decide) (fun hq => ?_) (fun hq => ?_)
    · replace h := if_yes hq h
      refine lv_aload_n hx hb dX9_move_141 rfl (lv_at hl 0 rfl) ?_
      refine lv_iconst (v := Int32.ofInt (0 : Int)) hx hb dX9_move_142 (by decide) ?_
      refine pzWM_HiddenEdgesModel_isFound hc hP hS (Or.inl rfl) q_169 dX9_move_143 (fun H locs hP hS => ?_)
      obtain ⟨S3, eS3⟩ : ∃ z, z = ui S 6 (0 : Int) := ⟨_, rfl⟩
      replace h := olet_at eS3 h
      rw [← eS3] at hP
      refine lv_iconst (v := Int32.ofInt (1 : Int)) hx hb dX9_move_146 (by decide) ?_
      obtain rfl := Option.some.inj h
      exact hr _ _ _ _ dX9_move_147 hP hS
    · replace h := if_no hq h
      refine lv_aload_n hx hb dX9_move_102 rfl (lv_at hl 0 rfl) ?_
      refine gfWM_HiddenEdgesModel_xOf hc hP q_99 dX9_move_103 ?_
      refine lv_iload hx hb dX9_move_106 (lv_at hl 4 rfl) ?_
      refine lv_dup2_11 hx hb dX9_move_108 rfl rfl ?_
      obtain ⟨h4, h⟩ := chk_at h
      refine azWM_HiddenEdgesModel_xOf hc hP h4 dX9_move_109 ?_
      refine lv_iload_n hx hb dX9_move_110 rfl (lv_at hl 1 rfl) ?_
      refine z_iadd hx hb dX9_move_111 ?_
      refine szWM_HiddenEdgesModel_xOf hc hP hS h4 dX9_move_112 (fun H locs hP hS => ?_)
      obtain ⟨S5, eS5⟩ : ∃ z, z = ua S 0 (v4).toNat ((za S 0 (v4).toNat) + v1) := ⟨_, rfl⟩
      replace h := olet_at eS5 h
      rw [← eS5] at hP
      refine lv_aload_n hx hb dX9_move_113 rfl (lv_at hl 0 rfl) ?_
      refine gfWM_HiddenEdgesModel_yOf hc hP q_100 dX9_move_114 ?_
      refine lv_iload hx hb dX9_move_117 (lv_at hl 4 rfl) ?_
      refine lv_dup2_11 hx hb dX9_move_119 rfl rfl ?_
      refine azWM_HiddenEdgesModel_yOf hc hP h4 dX9_move_120 ?_
      refine lv_iload_n hx hb dX9_move_121 rfl (lv_at hl 2 rfl) ?_
      refine z_iadd hx hb dX9_move_122 ?_
      refine szWM_HiddenEdgesModel_yOf hc hP hS h4 dX9_move_123 (fun H locs hP hS => ?_)
      obtain ⟨S6, eS6⟩ : ∃ z, z = ua S5 1 (v4).toNat ((za S5 1 (v4).toNat) + v2) := ⟨_, rfl⟩
      replace h := olet_at eS6 h
      rw [← eS6] at hP
      refine lv_aload_n hx hb dX9_move_124 rfl (lv_at hl 0 rfl) ?_
      refine gfWM_HiddenEdgesModel_zOf hc hP q_101 dX9_move_125 ?_
      refine lv_iload hx hb dX9_move_128 (lv_at hl 4 rfl) ?_
      refine lv_dup2_11 hx hb dX9_move_130 rfl rfl ?_
      refine azWM_HiddenEdgesModel_zOf hc hP h4 dX9_move_131 ?_
      refine lv_iload_n hx hb dX9_move_132 rfl (lv_at hl 3 rfl) ?_
      refine z_iadd hx hb dX9_move_133 ?_
      refine szWM_HiddenEdgesModel_zOf hc hP hS h4 dX9_move_134 (fun H locs hP hS => ?_)
      obtain ⟨S7, eS7⟩ : ∃ z, z = ua S6 2 (v4).toNat ((za S6 2 (v4).toNat) + v3) := ⟨_, rfl⟩
      replace h := olet_at eS7 h
      rw [← eS7] at hP
      obtain ⟨x8, ex8⟩ : ∃ y : Int, y = v4 + (1 : Int) := ⟨_, rfl⟩
      replace h := olet_at ex8 h
      refine lv_iinc (v := Int32.ofInt x8) (lv' := [(4, .int (Int32.ofInt x8)), (0, .ref (a 0)), (1, .int (Int32.ofInt v1)), (2, .int (Int32.ofInt v2)), (3, .int (Int32.ofInt v3))]) hx hb dX9_move_135 hl (k := 4) rfl (by rw [ex8, Int32.ofInt_add]) (by decide) rfl (fun ls hl => ?_)
      refine lv_goto (tgt := 93) hx hb dX9_move_138 (by decide) ?_
      exact ih S7 v1 v2 v3 x8 h H locs ls hP hS (lv_sub hl [1, 2, 3, 4, 0] rfl)
set_option maxHeartbeats 4000000 in
set_option maxRecDepth 100000 in
theorem t_X9_move_p39 {z : SZ × Int} (hc : Cx p R s m args c D (tysWM g) A (WM a g) cX9_move 5 RX9 2 44) (hr : Rti p l e R s m args below meth c Q D A (WM a g) cX9_move (em z.1, Int32.ofInt z.2)) : ∀ (fu : Nat) (S : SZ) (v1 : Int) (v2 : Int) (v3 : Int) (v4 : Int), f_X9_move_p39 fu S v1 v2 v3 v4 = some z → Go p l e R s m args below meth c Q D A (WM a g) 5 (em S) 39 [(0, .ref (a 0)), (1, .int (Int32.ofInt v1)), (2, .int (Int32.ofInt v2)), (3, .int (Int32.ofInt v3)), (4, .int (Int32.ofInt v4))] [] := by
  obtain ⟨⟨hx, hb, hml, hown, hts⟩, -, -, -, hnf, hno⟩ := id hc
  intro fu
  induction fu with
  | zero =>
    intro S v1 v2 v3 v4 h
    rw [f_X9_move_p39] at h
    cases h
  | succ fu ih =>
    intro S v1 v2 v3 v4 h H locs ls hP hS hl
    rw [f_X9_move_p39] at h
    refine lv_iload hx hb dX9_move_39 (lv_at hl 4 rfl) ?_
    refine lv_aload_n hx hb dX9_move_41 rfl (lv_at hl 0 rfl) ?_
    refine gzWM_HiddenEdgesModel_points hc hP q_154 dX9_move_42 ?_
    obtain ⟨h1, h⟩ := chk_at h
    obtain ⟨h2, h⟩ := chk_at h
    refine z_icmp_ge (tgt := 90) hx hb h1 h2 dX9_move_45 (by decide) (fun hq => ?_) (fun hq => ?_)
    · replace h := if_yes hq h
      refine lv_iconst (v := Int32.ofInt (0 : Int)) hx hb dX9_move_90 (by decide) ?_
      refine lv_istore (lv' := [(4, .int (Int32.ofInt (0 : Int))), (0, .ref (a 0)), (1, .int (Int32.ofInt v1)), (2, .int (Int32.ofInt v2)), (3, .int (Int32.ofInt v3))]) hx hb dX9_move_91 hl (by decide) rfl (fun ls hl => ?_)
      exact t_X9_move_p93 hc hr FU S v1 v2 v3 (0 : Int) h H locs ls hP hS (lv_sub hl [1, 2, 3, 4, 0] rfl)
    · replace h := if_no hq h
      refine lv_aload_n hx hb dX9_move_48 rfl (lv_at hl 0 rfl) ?_
      refine gfWM_HiddenEdgesModel_xOf hc hP q_99 dX9_move_49 ?_
      refine lv_iload hx hb dX9_move_52 (lv_at hl 4 rfl) ?_
      obtain ⟨h3, h⟩ := chk_at h
      refine azWM_HiddenEdgesModel_xOf hc hP h3 dX9_move_54 ?_
      refine lv_iload_n hx hb dX9_move_55 rfl (lv_at hl 1 rfl) ?_
      refine z_iadd hx hb dX9_move_56 ?_
      refine lv_aload_n hx hb dX9_move_57 rfl (lv_at hl 0 rfl) ?_
      refine gfWM_HiddenEdgesModel_yOf hc hP q_100 dX9_move_58 ?_
      refine lv_iload hx hb dX9_move_61 (lv_at hl 4 rfl) ?_
      refine azWM_HiddenEdgesModel_yOf hc hP h3 dX9_move_63 ?_
      refine lv_iload_n hx hb dX9_move_64 rfl (lv_at hl 2 rfl) ?_
      refine z_iadd hx hb dX9_move_65 ?_
      refine lv_aload_n hx hb dX9_move_66 rfl (lv_at hl 0 rfl) ?_
      refine gfWM_HiddenEdgesModel_zOf hc hP q_101 dX9_move_67 ?_
      refine lv_iload hx hb dX9_move_70 (lv_at hl 4 rfl) ?_
      refine azWM_HiddenEdgesModel_zOf hc hP h3 dX9_move_72 ?_
      refine lv_iload_n hx hb dX9_move_73 rfl (lv_at hl 3 rfl) ?_
      refine z_iadd hx hb dX9_move_74 ?_
      obtain ⟨S4, x6, hk5, h⟩ := ob2_at h
      refine cl_Si (As := [.int (Int32.ofInt ((za S 0 (v4).toNat) + v1)), .int (Int32.ofInt ((za S 1 (v4).toNat) + v2)), .int (Int32.ofInt ((za S 2 (v4).toNat) + v3))]) (rest := []) hc k_X9_isPlace q_155 (c_X9_isPlace hk5) hP hS rfl hl (Nat.le_of_ble_eq_true rfl) dX9_move_75 (Nat.le_of_ble_eq_true rfl) (Nat.le_of_ble_eq_true rfl) rfl (fun H locs hP hS => ?_)
      obtain ⟨h7, h⟩ := chk_at h
      refine z_if_ne (tgt := 84) hx hb h7 dX9_move_78 (by decide) (fun hq => ?_) (fun hq => ?_)
      · replace h := if_no hq h
        obtain ⟨x8, ex8⟩ : ∃ y : Int, y = v4 + (1 : Int) := ⟨_, rfl⟩
        replace h := olet_at ex8 h
        refine lv_iinc (v := Int32.ofInt x8) (lv' := [(4, .int (Int32.ofInt x8)), (0, .ref (a 0)), (1, .int (Int32.ofInt v1)), (2, .int (Int32.ofInt v2)), (3, .int (Int32.ofInt v3))]) hx hb dX9_move_84 hl (k := 4) rfl (by rw [ex8, Int32.ofInt_add]) (by decide) rfl (fun ls hl => ?_)
        refine lv_goto (tgt := 39) hx hb dX9_move_87 (by decide) ?_
        exact ih S4 v1 v2 v3 x8 h H locs ls hP hS (lv_sub hl [1, 2, 3, 4, 0] rfl)
      · replace h := if_yes hq h
        refine lv_bipush (v := Int32.ofInt (-3 : Int)) hx hb dX9_move_81 (by decide) ?_
        obtain rfl := Option.some.inj h
        exact hr _ _ _ _ dX9_move_83 hP hS
set_option maxHeartbeats 4000000 in
set_option maxRecDepth 100000 in
theorem t_X9_move {z : SZ × Int} (hc : Cx p R s m args c D (tysWM g) A (WM a g) cX9_move 5 RX9 2 44) (hr : Rti p l e R s m args below meth c Q D A (WM a g) cX9_move (em z.1, Int32.ofInt z.2)) : ∀ (S : SZ) (v1 : Int) (v2 : Int) (v3 : Int), f_X9_move S v1 v2 v3 = some z → Go p l e R s m args below meth c Q D A (WM a g) 5 (em S) 0 [(0, .ref (a 0)), (1, .int (Int32.ofInt v1)), (2, .int (Int32.ofInt v2)), (3, .int (Int32.ofInt v3))] [] := by
  obtain ⟨⟨hx, hb, hml, hown, hts⟩, -, -, -, hnf, hno⟩ := id hc
  intro S v1 v2 v3 h H locs ls hP hS hl
  rw [f_X9_move] at h
  replace hl : lv_has ls 5 [(0, .ref (a 0)), (1, .int (Int32.ofInt v1)), (2, .int (Int32.ofInt v2)), (3, .int (Int32.ofInt v3))] := hl
  refine lv_iload_n hx hb dX9_move_0 rfl (lv_at hl 1 rfl) ?_
  refine lv_bipush (v := Int32.ofInt (-18 : Int)) hx hb dX9_move_1 (by decide) ?_
  refine lv_bipush (v := Int32.ofInt (18 : Int)) hx hb dX9_move_3 (by decide) ?_
  obtain ⟨S1, x3, hk2, h⟩ := ob2_at h
  refine cl_Si (As := [.int (Int32.ofInt v1), .int (Int32.ofInt (-18 : Int)), .int (Int32.ofInt (18 : Int))]) (rest := []) hc k_X9_within q_158 (c_X9_within hk2) hP hS rfl hl (Nat.le_of_ble_eq_true rfl) dX9_move_5 (Nat.le_of_ble_eq_true rfl) (Nat.le_of_ble_eq_true rfl) rfl (fun H locs hP hS => ?_)
  obtain ⟨h4, h⟩ := chk_at h
  refine z_if_eq (tgt := 33) hx hb h4 dX9_move_8 (by decide) (fun hq => ?_) (fun hq => ?_)
  · replace h := if_yes hq h
    refine lv_bipush (v := Int32.ofInt (-2 : Int)) hx hb dX9_move_33 (by decide) ?_
    obtain rfl := Option.some.inj h
    exact hr _ _ _ _ dX9_move_35 hP hS
  · replace h := if_no hq h
    refine lv_iload_n hx hb dX9_move_11 rfl (lv_at hl 2 rfl) ?_
    refine lv_bipush (v := Int32.ofInt (-18 : Int)) hx hb dX9_move_12 (by decide) ?_
    refine lv_bipush (v := Int32.ofInt (18 : Int)) hx hb dX9_move_14 (by decide) ?_
    obtain ⟨S5, x7, hk6, h⟩ := ob2_at h
    refine cl_Si (As := [.int (Int32.ofInt v2), .int (Int32.ofInt (-18 : Int)), .int (Int32.ofInt (18 : Int))]) (rest := []) hc k_X9_within q_158 (c_X9_within hk6) hP hS rfl hl (Nat.le_of_ble_eq_true rfl) dX9_move_16 (Nat.le_of_ble_eq_true rfl) (Nat.le_of_ble_eq_true rfl) rfl (fun H locs hP hS => ?_)
    obtain ⟨h8, h⟩ := chk_at h
    refine z_if_eq (tgt := 33) hx hb h8 dX9_move_19 (by decide) (fun hq => ?_) (fun hq => ?_)
    · replace h := if_yes hq h
      refine lv_bipush (v := Int32.ofInt (-2 : Int)) hx hb dX9_move_33 (by decide) ?_
      obtain rfl := Option.some.inj h
      exact hr _ _ _ _ dX9_move_35 hP hS
    · replace h := if_no hq h
      refine lv_iload_n hx hb dX9_move_22 rfl (lv_at hl 3 rfl) ?_
      refine lv_bipush (v := Int32.ofInt (-18 : Int)) hx hb dX9_move_23 (by decide) ?_
      refine lv_bipush (v := Int32.ofInt (18 : Int)) hx hb dX9_move_25 (by decide) ?_
      obtain ⟨S9, x11, hk10, h⟩ := ob2_at h
      refine cl_Si (As := [.int (Int32.ofInt v3), .int (Int32.ofInt (-18 : Int)), .int (Int32.ofInt (18 : Int))]) (rest := []) hc k_X9_within q_158 (c_X9_within hk10) hP hS rfl hl (Nat.le_of_ble_eq_true rfl) dX9_move_27 (Nat.le_of_ble_eq_true rfl) (Nat.le_of_ble_eq_true rfl) rfl (fun H locs hP hS => ?_)
      obtain ⟨h12, h⟩ := chk_at h
      refine z_if_ne (tgt := 36) hx hb h12 dX9_move_30 (by decide) (fun hq => ?_) (fun hq => ?_)
      · replace h := if_no hq h
        refine lv_iconst (v := Int32.ofInt (0 : Int)) hx hb dX9_move_36 (by decide) ?_
        refine lv_istore (lv' := [(4, .int (Int32.ofInt (0 : Int))), (0, .ref (a 0)), (1, .int (Int32.ofInt v1)), (2, .int (Int32.ofInt v2)), (3, .int (Int32.ofInt v3))]) hx hb dX9_move_37 hl (by decide) rfl (fun ls hl => ?_)
        exact t_X9_move_p39 hc hr FU S9 v1 v2 v3 (0 : Int) h H locs ls hP hS (lv_sub hl [1, 2, 3, 4, 0] rfl)
      · replace h := if_yes hq h
        refine lv_bipush (v := Int32.ofInt (-2 : Int)) hx hb dX9_move_33 (by decide) ?_
        obtain rfl := Option.some.inj h
        exact hr _ _ _ _ dX9_move_35 hP hS
abbrev rm_X9_move : Room := { frames := 2, cells := 0, slots := 0, locals := 44 }
theorem c_X9_move {l : Launch} {D : va_G} {a : Nat → Nat} {g : Nat → ClassId} {S : SZ} {v1 : Int} {v2 : Int} {v3 : Int} {Z1 : SZ} {r1 : Int} (h : f_X9_move S v1 v2 v3 = some (Z1, r1)) : MetI l D (tysWM g) (WM a g) E0 yX9_move cX9_move 5 (some .int) rm_X9_move [.ref (a 0), .int (Int32.ofInt v1), .int (Int32.ofInt v2), .int (Int32.ofInt v3)] (em S) (em Z1, Int32.ofInt r1) := mk_i (WM_same a g) (by decide) (em Z1, Int32.ofInt r1) (Nat.le_of_ble_eq_true rfl) (fun p e s m args below meth c A Q hc hE hr => t_X9_move (z := (Z1, r1)) hc hr S v1 v2 v3 h)
theorem k_X9_move : CalV RX9 yX9_move cX9_move 5 (some .int) rm_X9_move 3 := ⟨q_325, q_326, q_5, q_327, by decide +kernel, rfl, rfl⟩
set_option maxHeartbeats 4000000 in
set_option maxRecDepth 100000 in
theorem t_X9_commonFaces_p5 {z : SZ × Int} (hc : Cx p R s m args c D (tysWM g) A (WM a g) cX9_commonFaces 5 RX9 1 22) (hr : Rti p l e R s m args below meth c Q D A (WM a g) cX9_commonFaces (em z.1, Int32.ofInt z.2)) : ∀ (fu : Nat) (S : SZ) (v1 : Int) (v2 : Int) (v3 : Int) (v4 : Int), f_X9_commonFaces_p5 fu S v1 v2 v3 v4 = some z → Go p l e R s m args below meth c Q D A (WM a g) 5 (em S) 5 [(0, .ref (a 0)), (1, .int (Int32.ofInt v1)), (2, .int (Int32.ofInt v2)), (3, .int (Int32.ofInt v3)), (4, .int (Int32.ofInt v4))] [] := by
  obtain ⟨⟨hx, hb, hml, hown, hts⟩, -, -, -, hnf, hno⟩ := id hc
  intro fu
  induction fu with
  | zero =>
    intro S v1 v2 v3 v4 h
    rw [f_X9_commonFaces_p5] at h
    cases h
  | succ fu ih =>
    intro S v1 v2 v3 v4 h H locs ls hP hS hl
    rw [f_X9_commonFaces_p5] at h
    refine lv_iload hx hb dX9_commonFaces_5 (lv_at hl 4 rfl) ?_
    refine lv_aload_n hx hb dX9_commonFaces_7 rfl (lv_at hl 0 rfl) ?_
    refine gzWM_HiddenEdgesModel_faces hc hP q_207 dX9_commonFaces_8 ?_
    obtain ⟨h1, h⟩ := chk_at h
    obtain ⟨h2, h⟩ := chk_at h
    refine z_icmp_ge (tgt := 48) hx hb h1 h2 dX9_commonFaces_11 (by decide) (fun hq => ?_) (fun hq => ?_)
    · replace h := if_yes hq h
      refine lv_iload_n hx hb dX9_commonFaces_48 rfl (lv_at hl 3 rfl) ?_
      obtain rfl := Option.some.inj h
      exact hr _ _ _ _ dX9_commonFaces_49 hP hS
    · replace h := if_no hq h
      refine lv_iload_n hx hb dX9_commonFaces_14 rfl (lv_at hl 3 rfl) ?_
      refine lv_aload_n hx hb dX9_commonFaces_15 rfl (lv_at hl 0 rfl) ?_
      refine lv_iload hx hb dX9_commonFaces_16 (lv_at hl 4 rfl) ?_
      refine lv_iload_n hx hb dX9_commonFaces_18 rfl (lv_at hl 1 rfl) ?_
      obtain ⟨S3, x5, hk4, h⟩ := ob2_at h
      refine cl_Vi (As := [.int (Int32.ofInt v4), .int (Int32.ofInt v1)]) (rest := [.int (Int32.ofInt v3)]) hc k_X9_hasCorner q_220 (c_X9_hasCorner hk4) hP hS (WM_0 a g (em S)) rfl rfl rfl hl (Nat.le_of_ble_eq_true rfl) dX9_commonFaces_19 (Nat.le_of_ble_eq_true rfl) (Nat.le_of_ble_eq_true rfl) rfl (fun H locs hP hS => ?_)
      obtain ⟨h6, h⟩ := chk_at h
      refine z_if_eq (tgt := 39) hx hb h6 dX9_commonFaces_22 (by decide) (fun hq => ?_) (fun hq => ?_)
      · replace h := if_yes hq h
        refine lv_iconst (v := Int32.ofInt (0 : Int)) hx hb dX9_commonFaces_39 (by decide) ?_
        refine z_iadd hx hb dX9_commonFaces_40 ?_
        refine z_topi (fun x7 ex7 => ?_)
        replace h := olet_at ex7 h
        refine lv_istore_n (lv' := [(3, .int (Int32.ofInt x7)), (0, .ref (a 0)), (1, .int (Int32.ofInt v1)), (2, .int (Int32.ofInt v2)), (4, .int (Int32.ofInt v4))]) hx hb dX9_commonFaces_41 rfl hl (by decide) rfl (fun ls hl => ?_)
        obtain ⟨x8, ex8⟩ : ∃ y : Int, y = v4 + (1 : Int) := ⟨_, rfl⟩
        replace h := olet_at ex8 h
        refine lv_iinc (v := Int32.ofInt x8) (lv' := [(4, .int (Int32.ofInt x8)), (3, .int (Int32.ofInt x7)), (0, .ref (a 0)), (1, .int (Int32.ofInt v1)), (2, .int (Int32.ofInt v2))]) hx hb dX9_commonFaces_42 hl (k := 4) rfl (by rw [ex8, Int32.ofInt_add]) (by decide) rfl (fun ls hl => ?_)
        refine lv_goto (tgt := 5) hx hb dX9_commonFaces_45 (by decide) ?_
        exact ih S3 v1 v2 x7 x8 h H locs ls hP hS (lv_sub hl [2, 3, 4, 1, 0] rfl)
      · replace h := if_no hq h
        refine lv_aload_n hx hb dX9_commonFaces_25 rfl (lv_at hl 0 rfl) ?_
        refine lv_iload hx hb dX9_commonFaces_26 (lv_at hl 4 rfl) ?_
        refine lv_iload_n hx hb dX9_commonFaces_28 rfl (lv_at hl 2 rfl) ?_
        obtain ⟨S9, x11, hk10, h⟩ := ob2_at h
        refine cl_Vi (As := [.int (Int32.ofInt v4), .int (Int32.ofInt v2)]) (rest := [.int (Int32.ofInt v3)]) hc k_X9_hasCorner q_220 (c_X9_hasCorner hk10) hP hS (WM_0 a g (em S3)) rfl rfl rfl hl (Nat.le_of_ble_eq_true rfl) dX9_commonFaces_29 (Nat.le_of_ble_eq_true rfl) (Nat.le_of_ble_eq_true rfl) rfl (fun H locs hP hS => ?_)
        obtain ⟨h12, h⟩ := chk_at h
        refine z_if_eq (tgt := 39) hx hb h12 dX9_commonFaces_32 (by decide) (fun hq => ?_) (fun hq => ?_)
        · replace h := if_yes hq h
          refine lv_iconst (v := Int32.ofInt (0 : Int)) hx hb dX9_commonFaces_39 (by decide) ?_
          refine z_iadd hx hb dX9_commonFaces_40 ?_
          refine z_topi (fun x13 ex13 => ?_)
          replace h := olet_at ex13 h
          refine lv_istore_n (lv' := [(3, .int (Int32.ofInt x13)), (0, .ref (a 0)), (1, .int (Int32.ofInt v1)), (2, .int (Int32.ofInt v2)), (4, .int (Int32.ofInt v4))]) hx hb dX9_commonFaces_41 rfl hl (by decide) rfl (fun ls hl => ?_)
          obtain ⟨x14, ex14⟩ : ∃ y : Int, y = v4 + (1 : Int) := ⟨_, rfl⟩
          replace h := olet_at ex14 h
          refine lv_iinc (v := Int32.ofInt x14) (lv' := [(4, .int (Int32.ofInt x14)), (3, .int (Int32.ofInt x13)), (0, .ref (a 0)), (1, .int (Int32.ofInt v1)), (2, .int (Int32.ofInt v2))]) hx hb dX9_commonFaces_42 hl (k := 4) rfl (by rw [ex14, Int32.ofInt_add]) (by decide) rfl (fun ls hl => ?_)
          refine lv_goto (tgt := 5) hx hb dX9_commonFaces_45 (by decide) ?_
          exact ih S9 v1 v2 x13 x14 h H locs ls hP hS (lv_sub hl [2, 3, 4, 1, 0] rfl)
        · replace h := if_no hq h
          refine lv_iconst (v := Int32.ofInt (1 : Int)) hx hb dX9_commonFaces_35 (by decide) ?_
          refine lv_goto (tgt := 40) hx hb dX9_commonFaces_36 (by decide) ?_
          refine z_iadd hx hb dX9_commonFaces_40 ?_
          refine z_topi (fun x15 ex15 => ?_)
          replace h := olet_at ex15 h
          refine lv_istore_n (lv' := [(3, .int (Int32.ofInt x15)), (0, .ref (a 0)), (1, .int (Int32.ofInt v1)), (2, .int (Int32.ofInt v2)), (4, .int (Int32.ofInt v4))]) hx hb dX9_commonFaces_41 rfl hl (by decide) rfl (fun ls hl => ?_)
          obtain ⟨x16, ex16⟩ : ∃ y : Int, y = v4 + (1 : Int) := ⟨_, rfl⟩
          replace h := olet_at ex16 h
          refine lv_iinc (v := Int32.ofInt x16) (lv' := [(4, .int (Int32.ofInt x16)), (3, .int (Int32.ofInt x15)), (0, .ref (a 0)), (1, .int (Int32.ofInt v1)), (2, .int (Int32.ofInt v2))]) hx hb dX9_commonFaces_42 hl (k := 4) rfl (by rw [ex16, Int32.ofInt_add]) (by decide) rfl (fun ls hl => ?_)
          refine lv_goto (tgt := 5) hx hb dX9_commonFaces_45 (by decide) ?_
          exact ih S9 v1 v2 x15 x16 h H locs ls hP hS (lv_sub hl [2, 3, 4, 1, 0] rfl)
set_option maxHeartbeats 4000000 in
set_option maxRecDepth 100000 in
theorem t_X9_commonFaces {z : SZ × Int} (hc : Cx p R s m args c D (tysWM g) A (WM a g) cX9_commonFaces 5 RX9 1 22) (hr : Rti p l e R s m args below meth c Q D A (WM a g) cX9_commonFaces (em z.1, Int32.ofInt z.2)) : ∀ (S : SZ) (v1 : Int) (v2 : Int), f_X9_commonFaces S v1 v2 = some z → Go p l e R s m args below meth c Q D A (WM a g) 5 (em S) 0 [(0, .ref (a 0)), (1, .int (Int32.ofInt v1)), (2, .int (Int32.ofInt v2))] [] := by
  obtain ⟨⟨hx, hb, hml, hown, hts⟩, -, -, -, hnf, hno⟩ := id hc
  intro S v1 v2 h H locs ls hP hS hl
  rw [f_X9_commonFaces] at h
  replace hl : lv_has ls 5 [(0, .ref (a 0)), (1, .int (Int32.ofInt v1)), (2, .int (Int32.ofInt v2))] := hl
  refine lv_iconst (v := Int32.ofInt (0 : Int)) hx hb dX9_commonFaces_0 (by decide) ?_
  refine lv_istore_n (lv' := [(3, .int (Int32.ofInt (0 : Int))), (0, .ref (a 0)), (1, .int (Int32.ofInt v1)), (2, .int (Int32.ofInt v2))]) hx hb dX9_commonFaces_1 rfl hl (by decide) rfl (fun ls hl => ?_)
  refine lv_iconst (v := Int32.ofInt (0 : Int)) hx hb dX9_commonFaces_2 (by decide) ?_
  refine lv_istore (lv' := [(4, .int (Int32.ofInt (0 : Int))), (3, .int (Int32.ofInt (0 : Int))), (0, .ref (a 0)), (1, .int (Int32.ofInt v1)), (2, .int (Int32.ofInt v2))]) hx hb dX9_commonFaces_3 hl (by decide) rfl (fun ls hl => ?_)
  exact t_X9_commonFaces_p5 hc hr FU S v1 v2 (0 : Int) (0 : Int) h H locs ls hP hS (lv_sub hl [2, 3, 4, 1, 0] rfl)
abbrev rm_X9_commonFaces : Room := { frames := 1, cells := 0, slots := 0, locals := 22 }
theorem c_X9_commonFaces {l : Launch} {D : va_G} {a : Nat → Nat} {g : Nat → ClassId} {S : SZ} {v1 : Int} {v2 : Int} {Z1 : SZ} {r1 : Int} (h : f_X9_commonFaces S v1 v2 = some (Z1, r1)) : MetI l D (tysWM g) (WM a g) E0 yX9_commonFaces cX9_commonFaces 5 (some .int) rm_X9_commonFaces [.ref (a 0), .int (Int32.ofInt v1), .int (Int32.ofInt v2)] (em S) (em Z1, Int32.ofInt r1) := mk_i (WM_same a g) (by decide) (em Z1, Int32.ofInt r1) (Nat.le_of_ble_eq_true rfl) (fun p e s m args below meth c A Q hc hE hr => t_X9_commonFaces (z := (Z1, r1)) hc hr S v1 v2 h)
theorem k_X9_commonFaces : CalV RX9 yX9_commonFaces cX9_commonFaces 5 (some .int) rm_X9_commonFaces 2 := ⟨q_553, q_554, q_5, q_555, by decide +kernel, rfl, rfl⟩
set_option maxHeartbeats 4000000 in
set_option maxRecDepth 100000 in
theorem t_X9_thirdOf_p31 {z : SZ × Int} (hc : Cx p R s m args c D (tysWM g) A (WM a g) cX9_thirdOf 6 RX9 0 0) (hr : Rti p l e R s m args below meth c Q D A (WM a g) cX9_thirdOf (em z.1, Int32.ofInt z.2)) {k13 : SZ → Int → Int → Int → Int → Int → Option (SZ × Int)} (K13 : ∀ (S : SZ) (v1 : Int) (v2 : Int) (v3 : Int) (v4 : Int) (v5 : Int), k13 S v1 v2 v3 v4 v5 = some z → Go p l e R s m args below meth c Q D A (WM a g) 6 (em S) 13 [(0, .ref (a 0)), (1, .int (Int32.ofInt v1)), (2, .int (Int32.ofInt v2)), (3, .int (Int32.ofInt v3)), (4, .int (Int32.ofInt v4)), (5, .int (Int32.ofInt v5))] []) : ∀ (S : SZ) (v1 : Int) (v2 : Int) (v3 : Int) (v5 : Int), f_X9_thirdOf_p31 k13 S v1 v2 v3 v5 = some z → Go p l e R s m args below meth c Q D A (WM a g) 6 (em S) 31 [(0, .ref (a 0)), (1, .int (Int32.ofInt v1)), (2, .int (Int32.ofInt v2)), (3, .int (Int32.ofInt v3)), (5, .int (Int32.ofInt v5))] [] := by
  obtain ⟨⟨hx, hb, hml, hown, hts⟩, -, -, -, hnf, hno⟩ := id hc
  intro S v1 v2 v3 v5 h H locs ls hP hS hl
  rw [f_X9_thirdOf_p31] at h
  refine lv_aload_n hx hb dX9_thirdOf_31 rfl (lv_at hl 0 rfl) ?_
  refine gfWM_HiddenEdgesModel_cornerOf hc hP q_102 dX9_thirdOf_32 ?_
  refine lv_iconst (v := Int32.ofInt (3 : Int)) hx hb dX9_thirdOf_35 (by decide) ?_
  refine lv_iload_n hx hb dX9_thirdOf_36 rfl (lv_at hl 1 rfl) ?_
  refine z_imul hx hb dX9_thirdOf_37 ?_
  refine lv_iload hx hb dX9_thirdOf_38 (lv_at hl 4 rfl) ?_
  refine z_iadd hx hb dX9_thirdOf_40 ?_
  obtain ⟨h1, h⟩ := chk_at h
  refine azWM_HiddenEdgesModel_cornerOf hc hP h1 dX9_thirdOf_41 ?_
  refine lv_goto (tgt := 47) hx hb dX9_thirdOf_42 (by decide) ?_
  refine z_topi (fun x2 ex2 => ?_)
  replace h := olet_at ex2 h
  refine lv_istore (lv' := [(4, .int (Int32.ofInt x2)), (0, .ref (a 0)), (1, .int (Int32.ofInt v1)), (2, .int (Int32.ofInt v2)), (3, .int (Int32.ofInt v3)), (5, .int (Int32.ofInt v5))]) hx hb dX9_thirdOf_47 hl (by decide) rfl (fun ls hl => ?_)
  obtain ⟨x3, ex3⟩ : ∃ y : Int, y = v5 + (1 : Int) := ⟨_, rfl⟩
  replace h := olet_at ex3 h
  refine lv_iinc (v := Int32.ofInt x3) (lv' := [(5, .int (Int32.ofInt x3)), (4, .int (Int32.ofInt x2)), (0, .ref (a 0)), (1, .int (Int32.ofInt v1)), (2, .int (Int32.ofInt v2)), (3, .int (Int32.ofInt v3))]) hx hb dX9_thirdOf_49 hl (k := 5) rfl (by rw [ex3, Int32.ofInt_add]) (by decide) rfl (fun ls hl => ?_)
  refine lv_goto (tgt := 13) hx hb dX9_thirdOf_52 (by decide) ?_
  exact K13 S v1 v2 v3 x2 x3 h H locs ls hP hS (lv_sub hl [2, 3, 4, 5, 1, 0] rfl)
set_option maxHeartbeats 4000000 in
set_option maxRecDepth 100000 in
theorem t_X9_thirdOf_p13 {z : SZ × Int} (hc : Cx p R s m args c D (tysWM g) A (WM a g) cX9_thirdOf 6 RX9 0 0) (hr : Rti p l e R s m args below meth c Q D A (WM a g) cX9_thirdOf (em z.1, Int32.ofInt z.2)) : ∀ (fu : Nat) (S : SZ) (v1 : Int) (v2 : Int) (v3 : Int) (v4 : Int) (v5 : Int), f_X9_thirdOf_p13 fu S v1 v2 v3 v4 v5 = some z → Go p l e R s m args below meth c Q D A (WM a g) 6 (em S) 13 [(0, .ref (a 0)), (1, .int (Int32.ofInt v1)), (2, .int (Int32.ofInt v2)), (3, .int (Int32.ofInt v3)), (4, .int (Int32.ofInt v4)), (5, .int (Int32.ofInt v5))] [] := by
  obtain ⟨⟨hx, hb, hml, hown, hts⟩, -, -, -, hnf, hno⟩ := id hc
  intro fu
  induction fu with
  | zero =>
    intro S v1 v2 v3 v4 v5 h
    rw [f_X9_thirdOf_p13] at h
    cases h
  | succ fu ih =>
    intro S v1 v2 v3 v4 v5 h H locs ls hP hS hl
    rw [f_X9_thirdOf_p13] at h
    refine lv_iload hx hb dX9_thirdOf_13 (lv_at hl 5 rfl) ?_
    refine lv_iconst (v := Int32.ofInt (3 : Int)) hx hb dX9_thirdOf_15 (by decide) ?_
    obtain ⟨h1, h⟩ := chk_at h
    refine z_icmp_ge (tgt := 55) hx hb h1 (by decide) dX9_thirdOf_16 (by decide) (fun hq => ?_) (fun hq => ?_)
    · replace h := if_yes hq h
      refine lv_iload hx hb dX9_thirdOf_55 (lv_at hl 4 rfl) ?_
      obtain rfl := Option.some.inj h
      exact hr _ _ _ _ dX9_thirdOf_57 hP hS
    · replace h := if_no hq h
      refine lv_iload hx hb dX9_thirdOf_19 (lv_at hl 4 rfl) ?_
      refine lv_iload_n hx hb dX9_thirdOf_21 rfl (lv_at hl 2 rfl) ?_
      obtain ⟨h2, h⟩ := chk_at h
      obtain ⟨h3, h⟩ := chk_at h
      refine z_icmp_eq (tgt := 31) hx hb h2 h3 dX9_thirdOf_22 (by decide) (fun hq => ?_) (fun hq => ?_)
      · replace h := if_yes hq h
        exact t_X9_thirdOf_p31 hc hr ih S v1 v2 v3 v5 h H locs ls hP hS (lv_sub hl [0, 1, 2, 3, 5] rfl)
      · replace h := if_no hq h
        refine lv_iload hx hb dX9_thirdOf_25 (lv_at hl 4 rfl) ?_
        refine lv_iload_n hx hb dX9_thirdOf_27 rfl (lv_at hl 3 rfl) ?_
        obtain ⟨h4, h⟩ := chk_at h
        refine z_icmp_ne (tgt := 45) hx hb h2 h4 dX9_thirdOf_28 (by decide) (fun hq => ?_) (fun hq => ?_)
        · replace h := if_no hq h
          refine lv_iload hx hb dX9_thirdOf_45 (lv_at hl 4 rfl) ?_
          refine lv_istore (lv' := [(4, .int (Int32.ofInt v4)), (0, .ref (a 0)), (1, .int (Int32.ofInt v1)), (2, .int (Int32.ofInt v2)), (3, .int (Int32.ofInt v3)), (5, .int (Int32.ofInt v5))]) hx hb dX9_thirdOf_47 hl (by decide) rfl (fun ls hl => ?_)
          obtain ⟨x5, ex5⟩ : ∃ y : Int, y = v5 + (1 : Int) := ⟨_, rfl⟩
          replace h := olet_at ex5 h
          refine lv_iinc (v := Int32.ofInt x5) (lv' := [(5, .int (Int32.ofInt x5)), (4, .int (Int32.ofInt v4)), (0, .ref (a 0)), (1, .int (Int32.ofInt v1)), (2, .int (Int32.ofInt v2)), (3, .int (Int32.ofInt v3))]) hx hb dX9_thirdOf_49 hl (k := 5) rfl (by rw [ex5, Int32.ofInt_add]) (by decide) rfl (fun ls hl => ?_)
          refine lv_goto (tgt := 13) hx hb dX9_thirdOf_52 (by decide) ?_
          exact ih S v1 v2 v3 v4 x5 h H locs ls hP hS (lv_sub hl [2, 3, 4, 5, 1, 0] rfl)
        · replace h := if_yes hq h
          exact t_X9_thirdOf_p31 hc hr ih S v1 v2 v3 v5 h H locs ls hP hS (lv_sub hl [0, 1, 2, 3, 5] rfl)
set_option maxHeartbeats 4000000 in
set_option maxRecDepth 100000 in
theorem t_X9_thirdOf {z : SZ × Int} (hc : Cx p R s m args c D (tysWM g) A (WM a g) cX9_thirdOf 6 RX9 0 0) (hr : Rti p l e R s m args below meth c Q D A (WM a g) cX9_thirdOf (em z.1, Int32.ofInt z.2)) : ∀ (S : SZ) (v1 : Int) (v2 : Int) (v3 : Int), f_X9_thirdOf S v1 v2 v3 = some z → Go p l e R s m args below meth c Q D A (WM a g) 6 (em S) 0 [(0, .ref (a 0)), (1, .int (Int32.ofInt v1)), (2, .int (Int32.ofInt v2)), (3, .int (Int32.ofInt v3))] [] := by
  obtain ⟨⟨hx, hb, hml, hown, hts⟩, -, -, -, hnf, hno⟩ := id hc
  intro S v1 v2 v3 h H locs ls hP hS hl
  rw [f_X9_thirdOf] at h
  replace hl : lv_has ls 6 [(0, .ref (a 0)), (1, .int (Int32.ofInt v1)), (2, .int (Int32.ofInt v2)), (3, .int (Int32.ofInt v3))] := hl
  refine lv_aload_n hx hb dX9_thirdOf_0 rfl (lv_at hl 0 rfl) ?_
  refine gfWM_HiddenEdgesModel_cornerOf hc hP q_102 dX9_thirdOf_1 ?_
  refine lv_iconst (v := Int32.ofInt (3 : Int)) hx hb dX9_thirdOf_4 (by decide) ?_
  refine lv_iload_n hx hb dX9_thirdOf_5 rfl (lv_at hl 1 rfl) ?_
  refine z_imul hx hb dX9_thirdOf_6 ?_
  obtain ⟨h1, h⟩ := chk_at h
  refine azWM_HiddenEdgesModel_cornerOf hc hP h1 dX9_thirdOf_7 ?_
  refine z_topi (fun x2 ex2 => ?_)
  replace h := olet_at ex2 h
  refine lv_istore (lv' := [(4, .int (Int32.ofInt x2)), (0, .ref (a 0)), (1, .int (Int32.ofInt v1)), (2, .int (Int32.ofInt v2)), (3, .int (Int32.ofInt v3))]) hx hb dX9_thirdOf_8 hl (by decide) rfl (fun ls hl => ?_)
  refine lv_iconst (v := Int32.ofInt (1 : Int)) hx hb dX9_thirdOf_10 (by decide) ?_
  refine lv_istore (lv' := [(5, .int (Int32.ofInt (1 : Int))), (4, .int (Int32.ofInt x2)), (0, .ref (a 0)), (1, .int (Int32.ofInt v1)), (2, .int (Int32.ofInt v2)), (3, .int (Int32.ofInt v3))]) hx hb dX9_thirdOf_11 hl (by decide) rfl (fun ls hl => ?_)
  exact t_X9_thirdOf_p13 hc hr FU S v1 v2 v3 x2 (1 : Int) h H locs ls hP hS (lv_sub hl [2, 3, 4, 5, 1, 0] rfl)
abbrev rm_X9_thirdOf : Room := { frames := 0, cells := 0, slots := 0, locals := 0 }
theorem c_X9_thirdOf {l : Launch} {D : va_G} {a : Nat → Nat} {g : Nat → ClassId} {S : SZ} {v1 : Int} {v2 : Int} {v3 : Int} {Z1 : SZ} {r1 : Int} (h : f_X9_thirdOf S v1 v2 v3 = some (Z1, r1)) : MetI l D (tysWM g) (WM a g) E0 yX9_thirdOf cX9_thirdOf 6 (some .int) rm_X9_thirdOf [.ref (a 0), .int (Int32.ofInt v1), .int (Int32.ofInt v2), .int (Int32.ofInt v3)] (em S) (em Z1, Int32.ofInt r1) := mk_i (WM_same a g) (by decide) (em Z1, Int32.ofInt r1) (Nat.le_of_ble_eq_true rfl) (fun p e s m args below meth c A Q hc hE hr => t_X9_thirdOf (z := (Z1, r1)) hc hr S v1 v2 v3 h)
theorem k_X9_thirdOf : CalV RX9 yX9_thirdOf cX9_thirdOf 6 (some .int) rm_X9_thirdOf 3 := ⟨q_561, q_562, q_5, q_563, by decide +kernel, rfl, rfl⟩
set_option maxHeartbeats 4000000 in
set_option maxRecDepth 100000 in
theorem t_X9_vol {z : SZ × Int} (hc : Cx p R s m args c D (tysWM g) A (WM a g) cX9_vol 9 RX9 0 0) (hr : Rtl p l e R s m args below meth c Q D A (WM a g) cX9_vol (em z.1, Int64.ofInt z.2)) : ∀ (S : SZ) (v0 : Int) (v1 : Int) (v2 : Int) (v3 : Int) (v4 : Int) (v5 : Int) (v6 : Int) (v7 : Int) (v8 : Int), f_X9_vol S v0 v1 v2 v3 v4 v5 v6 v7 v8 = some z → Go p l e R s m args below meth c Q D A (WM a g) 9 (em S) 0 [(0, .int (Int32.ofInt v0)), (1, .int (Int32.ofInt v1)), (2, .int (Int32.ofInt v2)), (3, .int (Int32.ofInt v3)), (4, .int (Int32.ofInt v4)), (5, .int (Int32.ofInt v5)), (6, .int (Int32.ofInt v6)), (7, .int (Int32.ofInt v7)), (8, .int (Int32.ofInt v8))] [] := by
  obtain ⟨⟨hx, hb, hml, hown, hts⟩, -, -, -, hnf, hno⟩ := id hc
  intro S v0 v1 v2 v3 v4 v5 v6 v7 v8 h H locs ls hP hS hl
  rw [f_X9_vol] at h
  replace hl : lv_has ls 9 [(0, .int (Int32.ofInt v0)), (1, .int (Int32.ofInt v1)), (2, .int (Int32.ofInt v2)), (3, .int (Int32.ofInt v3)), (4, .int (Int32.ofInt v4)), (5, .int (Int32.ofInt v5)), (6, .int (Int32.ofInt v6)), (7, .int (Int32.ofInt v7)), (8, .int (Int32.ofInt v8))] := hl
  refine lv_iload_n hx hb dX9_vol_0 rfl (lv_at hl 0 rfl) ?_
  obtain ⟨h1, h⟩ := chk_at h
  refine z_i2l hx hb h1 dX9_vol_1 ?_
  refine lv_iload hx hb dX9_vol_2 (lv_at hl 4 rfl) ?_
  refine lv_iload hx hb dX9_vol_4 (lv_at hl 8 rfl) ?_
  refine z_imul hx hb dX9_vol_6 ?_
  refine lv_iload hx hb dX9_vol_7 (lv_at hl 5 rfl) ?_
  refine lv_iload hx hb dX9_vol_9 (lv_at hl 7 rfl) ?_
  refine z_imul hx hb dX9_vol_11 ?_
  refine z_isub hx hb dX9_vol_12 ?_
  obtain ⟨h2, h⟩ := chk_at h
  refine z_i2l hx hb h2 dX9_vol_13 ?_
  refine z_lmul hx hb dX9_vol_14 ?_
  refine lv_iload_n hx hb dX9_vol_15 rfl (lv_at hl 1 rfl) ?_
  obtain ⟨h3, h⟩ := chk_at h
  refine z_i2l hx hb h3 dX9_vol_16 ?_
  refine lv_iload hx hb dX9_vol_17 (lv_at hl 5 rfl) ?_
  refine lv_iload hx hb dX9_vol_19 (lv_at hl 6 rfl) ?_
  refine z_imul hx hb dX9_vol_21 ?_
  refine lv_iload_n hx hb dX9_vol_22 rfl (lv_at hl 3 rfl) ?_
  refine lv_iload hx hb dX9_vol_23 (lv_at hl 8 rfl) ?_
  refine z_imul hx hb dX9_vol_25 ?_
  refine z_isub hx hb dX9_vol_26 ?_
  obtain ⟨h4, h⟩ := chk_at h
  refine z_i2l hx hb h4 dX9_vol_27 ?_
  refine z_lmul hx hb dX9_vol_28 ?_
  refine z_ladd hx hb dX9_vol_29 ?_
  refine lv_iload_n hx hb dX9_vol_30 rfl (lv_at hl 2 rfl) ?_
  obtain ⟨h5, h⟩ := chk_at h
  refine z_i2l hx hb h5 dX9_vol_31 ?_
  refine lv_iload_n hx hb dX9_vol_32 rfl (lv_at hl 3 rfl) ?_
  refine lv_iload hx hb dX9_vol_33 (lv_at hl 7 rfl) ?_
  refine z_imul hx hb dX9_vol_35 ?_
  refine lv_iload hx hb dX9_vol_36 (lv_at hl 4 rfl) ?_
  refine lv_iload hx hb dX9_vol_38 (lv_at hl 6 rfl) ?_
  refine z_imul hx hb dX9_vol_40 ?_
  refine z_isub hx hb dX9_vol_41 ?_
  obtain ⟨h6, h⟩ := chk_at h
  refine z_i2l hx hb h6 dX9_vol_42 ?_
  refine z_lmul hx hb dX9_vol_43 ?_
  refine z_ladd hx hb dX9_vol_44 ?_
  obtain rfl := Option.some.inj h
  exact hr _ _ _ _ dX9_vol_45 hP hS
abbrev rm_X9_vol : Room := { frames := 0, cells := 0, slots := 0, locals := 0 }
theorem c_X9_vol {l : Launch} {D : va_G} {a : Nat → Nat} {g : Nat → ClassId} {S : SZ} {v0 : Int} {v1 : Int} {v2 : Int} {v3 : Int} {v4 : Int} {v5 : Int} {v6 : Int} {v7 : Int} {v8 : Int} {Z1 : SZ} {r1 : Int} (h : f_X9_vol S v0 v1 v2 v3 v4 v5 v6 v7 v8 = some (Z1, r1)) : MetL l D (tysWM g) (WM a g) E0 yX9_vol cX9_vol 9 (some .long) rm_X9_vol [.int (Int32.ofInt v0), .int (Int32.ofInt v1), .int (Int32.ofInt v2), .int (Int32.ofInt v3), .int (Int32.ofInt v4), .int (Int32.ofInt v5), .int (Int32.ofInt v6), .int (Int32.ofInt v7), .int (Int32.ofInt v8)] (em S) (em Z1, Int64.ofInt r1) := mk_l (WM_same a g) (by decide) (em Z1, Int64.ofInt r1) (Nat.le_of_ble_eq_true rfl) (fun p e s m args below meth c A Q hc hE hr => t_X9_vol (z := (Z1, r1)) hc hr S v0 v1 v2 v3 v4 v5 v6 v7 v8 h)
theorem k_X9_vol : CalS yX9_vol cX9_vol 9 (some .long) rm_X9_vol 9 := ⟨q_569, q_5, q_570, by decide +kernel, rfl, rfl⟩
set_option maxHeartbeats 4000000 in
set_option maxRecDepth 100000 in
theorem t_X9_volBy {z : SZ × Int} (hc : Cx p R s m args c D (tysWM g) A (WM a g) cX9_volBy 9 RX9 1 28) (hr : Rtl p l e R s m args below meth c Q D A (WM a g) cX9_volBy (em z.1, Int64.ofInt z.2)) : ∀ (S : SZ) (v1 : Int) (v2 : Int) (v3 : Int) (v4 : Int) (v5 : Int) (v6 : Int) (v7 : Int) (v8 : Int), f_X9_volBy S v1 v2 v3 v4 v5 v6 v7 v8 = some z → Go p l e R s m args below meth c Q D A (WM a g) 9 (em S) 0 [(0, .ref (a 0)), (1, .int (Int32.ofInt v1)), (2, .int (Int32.ofInt v2)), (3, .int (Int32.ofInt v3)), (4, .int (Int32.ofInt v4)), (5, .int (Int32.ofInt v5)), (6, .int (Int32.ofInt v6)), (7, .int (Int32.ofInt v7)), (8, .int (Int32.ofInt v8))] [] := by
  obtain ⟨⟨hx, hb, hml, hown, hts⟩, -, -, -, hnf, hno⟩ := id hc
  intro S v1 v2 v3 v4 v5 v6 v7 v8 h H locs ls hP hS hl
  rw [f_X9_volBy] at h
  replace hl : lv_has ls 9 [(0, .ref (a 0)), (1, .int (Int32.ofInt v1)), (2, .int (Int32.ofInt v2)), (3, .int (Int32.ofInt v3)), (4, .int (Int32.ofInt v4)), (5, .int (Int32.ofInt v5)), (6, .int (Int32.ofInt v6)), (7, .int (Int32.ofInt v7)), (8, .int (Int32.ofInt v8))] := hl
  refine lv_aload_n hx hb dX9_volBy_0 rfl (lv_at hl 0 rfl) ?_
  refine gfWM_HiddenEdgesModel_xOf hc hP q_99 dX9_volBy_1 ?_
  refine lv_iload_n hx hb dX9_volBy_4 rfl (lv_at hl 2 rfl) ?_
  obtain ⟨h1, h⟩ := chk_at h
  refine azWM_HiddenEdgesModel_xOf hc hP h1 dX9_volBy_5 ?_
  refine lv_aload_n hx hb dX9_volBy_6 rfl (lv_at hl 0 rfl) ?_
  refine gfWM_HiddenEdgesModel_xOf hc hP q_99 dX9_volBy_7 ?_
  refine lv_iload_n hx hb dX9_volBy_10 rfl (lv_at hl 1 rfl) ?_
  obtain ⟨h2, h⟩ := chk_at h
  refine azWM_HiddenEdgesModel_xOf hc hP h2 dX9_volBy_11 ?_
  refine z_isub hx hb dX9_volBy_12 ?_
  refine lv_aload_n hx hb dX9_volBy_13 rfl (lv_at hl 0 rfl) ?_
  refine gfWM_HiddenEdgesModel_yOf hc hP q_100 dX9_volBy_14 ?_
  refine lv_iload_n hx hb dX9_volBy_17 rfl (lv_at hl 2 rfl) ?_
  refine azWM_HiddenEdgesModel_yOf hc hP h1 dX9_volBy_18 ?_
  refine lv_aload_n hx hb dX9_volBy_19 rfl (lv_at hl 0 rfl) ?_
  refine gfWM_HiddenEdgesModel_yOf hc hP q_100 dX9_volBy_20 ?_
  refine lv_iload_n hx hb dX9_volBy_23 rfl (lv_at hl 1 rfl) ?_
  refine azWM_HiddenEdgesModel_yOf hc hP h2 dX9_volBy_24 ?_
  refine z_isub hx hb dX9_volBy_25 ?_
  refine lv_aload_n hx hb dX9_volBy_26 rfl (lv_at hl 0 rfl) ?_
  refine gfWM_HiddenEdgesModel_zOf hc hP q_101 dX9_volBy_27 ?_
  refine lv_iload_n hx hb dX9_volBy_30 rfl (lv_at hl 2 rfl) ?_
  refine azWM_HiddenEdgesModel_zOf hc hP h1 dX9_volBy_31 ?_
  refine lv_aload_n hx hb dX9_volBy_32 rfl (lv_at hl 0 rfl) ?_
  refine gfWM_HiddenEdgesModel_zOf hc hP q_101 dX9_volBy_33 ?_
  refine lv_iload_n hx hb dX9_volBy_36 rfl (lv_at hl 1 rfl) ?_
  refine azWM_HiddenEdgesModel_zOf hc hP h2 dX9_volBy_37 ?_
  refine z_isub hx hb dX9_volBy_38 ?_
  refine lv_iload_n hx hb dX9_volBy_39 rfl (lv_at hl 3 rfl) ?_
  refine lv_iload hx hb dX9_volBy_40 (lv_at hl 4 rfl) ?_
  refine lv_iload hx hb dX9_volBy_42 (lv_at hl 5 rfl) ?_
  refine lv_iload hx hb dX9_volBy_44 (lv_at hl 6 rfl) ?_
  refine lv_iload hx hb dX9_volBy_46 (lv_at hl 7 rfl) ?_
  refine lv_iload hx hb dX9_volBy_48 (lv_at hl 8 rfl) ?_
  obtain ⟨S3, x5, hk4, h⟩ := ob2_at h
  refine cl_Sl (As := [.int (Int32.ofInt ((za S 0 (v2).toNat) - (za S 0 (v1).toNat))), .int (Int32.ofInt ((za S 1 (v2).toNat) - (za S 1 (v1).toNat))), .int (Int32.ofInt ((za S 2 (v2).toNat) - (za S 2 (v1).toNat))), .int (Int32.ofInt v3), .int (Int32.ofInt v4), .int (Int32.ofInt v5), .int (Int32.ofInt v6), .int (Int32.ofInt v7), .int (Int32.ofInt v8)]) (rest := []) hc k_X9_vol q_568 (c_X9_vol hk4) hP hS rfl hl (Nat.le_of_ble_eq_true rfl) dX9_volBy_50 (Nat.le_of_ble_eq_true rfl) (Nat.le_of_ble_eq_true rfl) rfl (fun H locs hP hS => ?_)
  obtain rfl := Option.some.inj h
  exact hr _ _ _ _ dX9_volBy_53 hP hS
abbrev rm_X9_volBy : Room := { frames := 1, cells := 0, slots := 0, locals := 28 }
theorem c_X9_volBy {l : Launch} {D : va_G} {a : Nat → Nat} {g : Nat → ClassId} {S : SZ} {v1 : Int} {v2 : Int} {v3 : Int} {v4 : Int} {v5 : Int} {v6 : Int} {v7 : Int} {v8 : Int} {Z1 : SZ} {r1 : Int} (h : f_X9_volBy S v1 v2 v3 v4 v5 v6 v7 v8 = some (Z1, r1)) : MetL l D (tysWM g) (WM a g) E0 yX9_volBy cX9_volBy 9 (some .long) rm_X9_volBy [.ref (a 0), .int (Int32.ofInt v1), .int (Int32.ofInt v2), .int (Int32.ofInt v3), .int (Int32.ofInt v4), .int (Int32.ofInt v5), .int (Int32.ofInt v6), .int (Int32.ofInt v7), .int (Int32.ofInt v8)] (em S) (em Z1, Int64.ofInt r1) := mk_l (WM_same a g) (by decide) (em Z1, Int64.ofInt r1) (Nat.le_of_ble_eq_true rfl) (fun p e s m args below meth c A Q hc hE hr => t_X9_volBy (z := (Z1, r1)) hc hr S v1 v2 v3 v4 v5 v6 v7 v8 h)
theorem k_X9_volBy : CalV RX9 yX9_volBy cX9_volBy 9 (some .long) rm_X9_volBy 8 := ⟨q_565, q_566, q_5, q_567, by decide +kernel, rfl, rfl⟩
set_option maxHeartbeats 4000000 in
set_option maxRecDepth 100000 in
theorem t_X9_turnOf {z : SZ × Int} (hc : Cx p R s m args c D (tysWM g) A (WM a g) cX9_turnOf 4 RX9 2 56) (hr : Rtl p l e R s m args below meth c Q D A (WM a g) cX9_turnOf (em z.1, Int64.ofInt z.2)) : ∀ (S : SZ) (v1 : Int), f_X9_turnOf S v1 = some z → Go p l e R s m args below meth c Q D A (WM a g) 4 (em S) 0 [(0, .ref (a 0)), (1, .int (Int32.ofInt v1))] [] := by
  obtain ⟨⟨hx, hb, hml, hown, hts⟩, -, -, -, hnf, hno⟩ := id hc
  intro S v1 h H locs ls hP hS hl
  rw [f_X9_turnOf] at h
  replace hl : lv_has ls 4 [(0, .ref (a 0)), (1, .int (Int32.ofInt v1))] := hl
  refine lv_aload_n hx hb dX9_turnOf_0 rfl (lv_at hl 0 rfl) ?_
  refine gfWM_HiddenEdgesModel_cornerOf hc hP q_102 dX9_turnOf_1 ?_
  refine lv_iconst (v := Int32.ofInt (3 : Int)) hx hb dX9_turnOf_4 (by decide) ?_
  refine lv_iload_n hx hb dX9_turnOf_5 rfl (lv_at hl 1 rfl) ?_
  refine z_imul hx hb dX9_turnOf_6 ?_
  obtain ⟨h1, h⟩ := chk_at h
  refine azWM_HiddenEdgesModel_cornerOf hc hP h1 dX9_turnOf_7 ?_
  refine z_topi (fun x2 ex2 => ?_)
  replace h := olet_at ex2 h
  refine lv_istore_n (lv' := [(2, .int (Int32.ofInt x2)), (0, .ref (a 0)), (1, .int (Int32.ofInt v1))]) hx hb dX9_turnOf_8 rfl hl (by decide) rfl (fun ls hl => ?_)
  refine lv_aload_n hx hb dX9_turnOf_9 rfl (lv_at hl 1 rfl) ?_
  refine gfWM_HiddenEdgesModel_cornerOf hc hP q_102 dX9_turnOf_10 ?_
  refine lv_iconst (v := Int32.ofInt (3 : Int)) hx hb dX9_turnOf_13 (by decide) ?_
  refine lv_iload_n hx hb dX9_turnOf_14 rfl (lv_at hl 2 rfl) ?_
  refine z_imul hx hb dX9_turnOf_15 ?_
  refine lv_iconst (v := Int32.ofInt (2 : Int)) hx hb dX9_turnOf_16 (by decide) ?_
  refine z_iadd hx hb dX9_turnOf_17 ?_
  obtain ⟨h3, h⟩ := chk_at h
  refine azWM_HiddenEdgesModel_cornerOf hc hP h3 dX9_turnOf_18 ?_
  refine z_topi (fun x4 ex4 => ?_)
  replace h := olet_at ex4 h
  refine lv_istore_n (lv' := [(3, .int (Int32.ofInt x4)), (2, .int (Int32.ofInt x2)), (0, .ref (a 0)), (1, .int (Int32.ofInt v1))]) hx hb dX9_turnOf_19 rfl hl (by decide) rfl (fun ls hl => ?_)
  refine lv_aload_n hx hb dX9_turnOf_20 rfl (lv_at hl 2 rfl) ?_
  refine lv_iload_n hx hb dX9_turnOf_21 rfl (lv_at hl 1 rfl) ?_
  refine lv_aload_n hx hb dX9_turnOf_22 rfl (lv_at hl 2 rfl) ?_
  refine gfWM_HiddenEdgesModel_cornerOf hc hP q_102 dX9_turnOf_23 ?_
  refine lv_iconst (v := Int32.ofInt (3 : Int)) hx hb dX9_turnOf_26 (by decide) ?_
  refine lv_iload_n hx hb dX9_turnOf_27 rfl (lv_at hl 3 rfl) ?_
  refine z_imul hx hb dX9_turnOf_28 ?_
  refine lv_iconst (v := Int32.ofInt (1 : Int)) hx hb dX9_turnOf_29 (by decide) ?_
  refine z_iadd hx hb dX9_turnOf_30 ?_
  obtain ⟨h5, h⟩ := chk_at h
  refine azWM_HiddenEdgesModel_cornerOf hc hP h5 dX9_turnOf_31 ?_
  refine lv_aload_n hx hb dX9_turnOf_32 rfl (lv_at hl 2 rfl) ?_
  refine gfWM_HiddenEdgesModel_xOf hc hP q_99 dX9_turnOf_33 ?_
  refine lv_iload_n hx hb dX9_turnOf_36 rfl (lv_at hl 0 rfl) ?_
  obtain ⟨h6, h⟩ := chk_at h
  refine azWM_HiddenEdgesModel_xOf hc hP h6 dX9_turnOf_37 ?_
  refine lv_aload_n hx hb dX9_turnOf_38 rfl (lv_at hl 2 rfl) ?_
  refine gfWM_HiddenEdgesModel_xOf hc hP q_99 dX9_turnOf_39 ?_
  refine lv_iload_n hx hb dX9_turnOf_42 rfl (lv_at hl 1 rfl) ?_
  obtain ⟨h7, h⟩ := chk_at h
  refine azWM_HiddenEdgesModel_xOf hc hP h7 dX9_turnOf_43 ?_
  refine z_isub hx hb dX9_turnOf_44 ?_
  refine lv_aload_n hx hb dX9_turnOf_45 rfl (lv_at hl 2 rfl) ?_
  refine gfWM_HiddenEdgesModel_yOf hc hP q_100 dX9_turnOf_46 ?_
  refine lv_iload_n hx hb dX9_turnOf_49 rfl (lv_at hl 0 rfl) ?_
  refine azWM_HiddenEdgesModel_yOf hc hP h6 dX9_turnOf_50 ?_
  refine lv_aload_n hx hb dX9_turnOf_51 rfl (lv_at hl 2 rfl) ?_
  refine gfWM_HiddenEdgesModel_yOf hc hP q_100 dX9_turnOf_52 ?_
  refine lv_iload_n hx hb dX9_turnOf_55 rfl (lv_at hl 1 rfl) ?_
  refine azWM_HiddenEdgesModel_yOf hc hP h7 dX9_turnOf_56 ?_
  refine z_isub hx hb dX9_turnOf_57 ?_
  refine lv_aload_n hx hb dX9_turnOf_58 rfl (lv_at hl 2 rfl) ?_
  refine gfWM_HiddenEdgesModel_zOf hc hP q_101 dX9_turnOf_59 ?_
  refine lv_iload_n hx hb dX9_turnOf_62 rfl (lv_at hl 0 rfl) ?_
  refine azWM_HiddenEdgesModel_zOf hc hP h6 dX9_turnOf_63 ?_
  refine lv_aload_n hx hb dX9_turnOf_64 rfl (lv_at hl 2 rfl) ?_
  refine gfWM_HiddenEdgesModel_zOf hc hP q_101 dX9_turnOf_65 ?_
  refine lv_iload_n hx hb dX9_turnOf_68 rfl (lv_at hl 1 rfl) ?_
  refine azWM_HiddenEdgesModel_zOf hc hP h7 dX9_turnOf_69 ?_
  refine z_isub hx hb dX9_turnOf_70 ?_
  refine lv_aload_n hx hb dX9_turnOf_71 rfl (lv_at hl 2 rfl) ?_
  refine gzWM_HiddenEdgesModel_dx hc hP q_302 dX9_turnOf_72 ?_
  refine lv_aload_n hx hb dX9_turnOf_75 rfl (lv_at hl 2 rfl) ?_
  refine gzWM_HiddenEdgesModel_dy hc hP q_303 dX9_turnOf_76 ?_
  refine lv_aload_n hx hb dX9_turnOf_79 rfl (lv_at hl 2 rfl) ?_
  refine gzWM_HiddenEdgesModel_dz hc hP q_105 dX9_turnOf_80 ?_
  obtain ⟨S8, x10, hk9, h⟩ := ob2_at h
  refine cl_Vl (As := [.int (Int32.ofInt x2), .int (Int32.ofInt (za S 3 ((((3 : Int) * v1) + (1 : Int))).toNat)), .int (Int32.ofInt ((za S 0 (x4).toNat) - (za S 0 (x2).toNat))), .int (Int32.ofInt ((za S 1 (x4).toNat) - (za S 1 (x2).toNat))), .int (Int32.ofInt ((za S 2 (x4).toNat) - (za S 2 (x2).toNat))), .int (Int32.ofInt (zi S 3)), .int (Int32.ofInt (zi S 4)), .int (Int32.ofInt (zi S 5))]) (rest := []) hc k_X9_volBy q_564 (c_X9_volBy hk9) hP hS (WM_0 a g (em S)) rfl rfl rfl hl (Nat.le_of_ble_eq_true rfl) dX9_turnOf_83 (Nat.le_of_ble_eq_true rfl) (Nat.le_of_ble_eq_true rfl) rfl (fun H locs hP hS => ?_)
  obtain rfl := Option.some.inj h
  exact hr _ _ _ _ dX9_turnOf_86 hP hS
abbrev rm_X9_turnOf : Room := { frames := 2, cells := 0, slots := 0, locals := 56 }
theorem c_X9_turnOf {l : Launch} {D : va_G} {a : Nat → Nat} {g : Nat → ClassId} {S : SZ} {v1 : Int} {Z1 : SZ} {r1 : Int} (h : f_X9_turnOf S v1 = some (Z1, r1)) : MetL l D (tysWM g) (WM a g) E0 yX9_turnOf cX9_turnOf 4 (some .long) rm_X9_turnOf [.ref (a 0), .int (Int32.ofInt v1)] (em S) (em Z1, Int64.ofInt r1) := mk_l (WM_same a g) (by decide) (em Z1, Int64.ofInt r1) (Nat.le_of_ble_eq_true rfl) (fun p e s m args below meth c A Q hc hE hr => t_X9_turnOf (z := (Z1, r1)) hc hr S v1 h)
theorem k_X9_turnOf : CalV RX9 yX9_turnOf cX9_turnOf 4 (some .long) rm_X9_turnOf 1 := ⟨q_572, q_573, q_5, q_574, by decide +kernel, rfl, rfl⟩
set_option maxHeartbeats 4000000 in
set_option maxRecDepth 100000 in
theorem t_X9_sortBy_p224 {z : SZ × Int} (hc : Cx p R s m args c D (tysWM g) A (WM a g) cX9_sortBy 10 RX9 3 79) (hr : Rti p l e R s m args below meth c Q D A (WM a g) cX9_sortBy (em z.1, Int32.ofInt z.2)) : ∀ (S : SZ) (v5 : Int) (s0 : Int), f_X9_sortBy_p224 S v5 s0 = some z → Go p l e R s m args below meth c Q D A (WM a g) 10 (em S) 224 [(0, .ref (a 0)), (5, .int (Int32.ofInt v5))] [.int (Int32.ofInt s0)] := by
  obtain ⟨⟨hx, hb, hml, hown, hts⟩, -, -, -, hnf, hno⟩ := id hc
  intro S v5 s0 h H locs ls hP hS hl
  rw [f_X9_sortBy_p224] at h
  refine lv_aload_n hx hb dX9_sortBy_224 rfl (lv_at hl 0 rfl) ?_
  refine lv_iload hx hb dX9_sortBy_225 (lv_at hl 1 rfl) ?_
  obtain ⟨S1, x3, hk2, h⟩ := ob2_at h
  refine cl_Vl (As := [.int (Int32.ofInt v5)]) (rest := [.int (Int32.ofInt s0)]) hc k_X9_turnOf q_571 (c_X9_turnOf hk2) hP hS (WM_0 a g (em S)) rfl rfl rfl hl (Nat.le_of_ble_eq_true rfl) dX9_sortBy_227 (Nat.le_of_ble_eq_true rfl) (Nat.le_of_ble_eq_true rfl) rfl (fun H locs hP hS => ?_)
  refine lv_lconst (v := Int64.ofInt (0 : Int)) hx hb dX9_sortBy_230 (by decide) ?_
  refine W.lcmp hx hb dX9_sortBy_231 ?_
  obtain ⟨h4, h⟩ := chk_at h
  refine zc_if_le (tgt := 239) hx hb h4 (by decide) dX9_sortBy_232 (by decide) (fun hq => ?_) (fun hq => ?_)
  · replace h := if_yes hq h
    refine lv_iconst (v := Int32.ofInt (0 : Int)) hx hb dX9_sortBy_239 (by decide) ?_
    obtain ⟨h5, h⟩ := chk_at h
    refine z_icmp_eq (tgt := 247) hx hb h5 (by decide) dX9_sortBy_240 (by decide) (fun hq => ?_) (fun hq => ?_)
    · replace h := if_yes hq h
      refine lv_iconst (v := Int32.ofInt (4 : Int)) hx hb dX9_sortBy_247 (by decide) ?_
      obtain rfl := Option.some.inj h
      exact hr _ _ _ _ dX9_sortBy_248 hP hS
    · replace h := if_no hq h
      refine lv_iconst (v := Int32.ofInt (3 : Int)) hx hb dX9_sortBy_243 (by decide) ?_
      refine lv_goto (tgt := 248) hx hb dX9_sortBy_244 (by decide) ?_
      obtain rfl := Option.some.inj h
      exact hr _ _ _ _ dX9_sortBy_248 hP hS
  · replace h := if_no hq h
    refine lv_iconst (v := Int32.ofInt (1 : Int)) hx hb dX9_sortBy_235 (by decide) ?_
    refine lv_goto (tgt := 240) hx hb dX9_sortBy_236 (by decide) ?_
    obtain ⟨h6, h⟩ := chk_at h
    refine z_icmp_eq (tgt := 247) hx hb h6 (by decide) dX9_sortBy_240 (by decide) (fun hq => ?_) (fun hq => ?_)
    · replace h := if_yes hq h
      refine lv_iconst (v := Int32.ofInt (4 : Int)) hx hb dX9_sortBy_247 (by decide) ?_
      obtain rfl := Option.some.inj h
      exact hr _ _ _ _ dX9_sortBy_248 hP hS
    · replace h := if_no hq h
      refine lv_iconst (v := Int32.ofInt (3 : Int)) hx hb dX9_sortBy_243 (by decide) ?_
      refine lv_goto (tgt := 248) hx hb dX9_sortBy_244 (by decide) ?_
      obtain rfl := Option.some.inj h
      exact hr _ _ _ _ dX9_sortBy_248 hP hS
set_option maxHeartbeats 4000000 in
set_option maxRecDepth 100000 in
theorem t_X9_sortBy_p32 {z : SZ × Int} (hc : Cx p R s m args c D (tysWM g) A (WM a g) cX9_sortBy 10 RX9 3 79) (hr : Rti p l e R s m args below meth c Q D A (WM a g) cX9_sortBy (em z.1, Int32.ofInt z.2)) : ∀ (fu : Nat) (S : SZ) (v1 : Int) (v2 : Int) (v4 : Int) (v5 : Int) (v6 : Int), f_X9_sortBy_p32 fu S v1 v2 v4 v5 v6 = some z → Go p l e R s m args below meth c Q D A (WM a g) 10 (em S) 32 [(0, .ref (a 0)), (1, .int (Int32.ofInt v1)), (2, .int (Int32.ofInt v2)), (4, .int (Int32.ofInt v4)), (5, .int (Int32.ofInt v5)), (6, .int (Int32.ofInt v6))] [] := by
  obtain ⟨⟨hx, hb, hml, hown, hts⟩, -, -, -, hnf, hno⟩ := id hc
  intro fu
  induction fu with
  | zero =>
    intro S v1 v2 v4 v5 v6 h
    rw [f_X9_sortBy_p32] at h
    cases h
  | succ fu ih =>
    intro S v1 v2 v4 v5 v6 h H locs ls hP hS hl
    rw [f_X9_sortBy_p32] at h
    refine lv_iload hx hb dX9_sortBy_32 (lv_at hl 5 rfl) ?_
    refine lv_aload_n hx hb dX9_sortBy_34 rfl (lv_at hl 0 rfl) ?_
    refine gzWM_HiddenEdgesModel_faces hc hP q_207 dX9_sortBy_35 ?_
    obtain ⟨h1, h⟩ := chk_at h
    obtain ⟨h2, h⟩ := chk_at h
    refine z_icmp_ge (tgt := 87) hx hb h1 h2 dX9_sortBy_38 (by decide) (fun hq => ?_) (fun hq => ?_)
    · replace h := if_yes hq h
      refine lv_aload_n hx hb dX9_sortBy_87 rfl (lv_at hl 0 rfl) ?_
      refine lv_iload hx hb dX9_sortBy_88 (lv_at hl 3 rfl) ?_
      refine lv_iload_n hx hb dX9_sortBy_90 rfl (lv_at hl 1 rfl) ?_
      refine lv_iload_n hx hb dX9_sortBy_91 rfl (lv_at hl 2 rfl) ?_
      obtain ⟨S3, x5, hk4, h⟩ := ob2_at h
      refine cl_Vi (As := [.int (Int32.ofInt v4), .int (Int32.ofInt v1), .int (Int32.ofInt v2)]) (rest := []) hc k_X9_thirdOf q_560 (c_X9_thirdOf hk4) hP hS (WM_0 a g (em S)) rfl rfl rfl hl (Nat.le_of_ble_eq_true rfl) dX9_sortBy_92 (Nat.le_of_ble_eq_true rfl) (Nat.le_of_ble_eq_true rfl) rfl (fun H locs hP hS => ?_)
      refine lv_istore (lv' := [(6, .int (Int32.ofInt x5)), (0, .ref (a 0)), (1, .int (Int32.ofInt v1)), (2, .int (Int32.ofInt v2)), (4, .int (Int32.ofInt v4)), (5, .int (Int32.ofInt v5))]) hx hb dX9_sortBy_95 hl (by decide) rfl (fun ls hl => ?_)
      refine lv_aload_n hx hb dX9_sortBy_97 rfl (lv_at hl 1 rfl) ?_
      refine lv_iload hx hb dX9_sortBy_98 (lv_at hl 5 rfl) ?_
      refine lv_iload_n hx hb dX9_sortBy_100 rfl (lv_at hl 2 rfl) ?_
      refine lv_iload_n hx hb dX9_sortBy_101 rfl (lv_at hl 3 rfl) ?_
      obtain ⟨S6, x8, hk7, h⟩ := ob2_at h
      refine cl_Vi (As := [.int (Int32.ofInt v5), .int (Int32.ofInt v1), .int (Int32.ofInt v2)]) (rest := []) hc k_X9_thirdOf q_560 (c_X9_thirdOf hk7) hP hS (WM_0 a g (em S3)) rfl rfl rfl hl (Nat.le_of_ble_eq_true rfl) dX9_sortBy_102 (Nat.le_of_ble_eq_true rfl) (Nat.le_of_ble_eq_true rfl) rfl (fun H locs hP hS => ?_)
      refine lv_istore (lv' := [(7, .int (Int32.ofInt x8)), (6, .int (Int32.ofInt x5)), (0, .ref (a 0)), (1, .int (Int32.ofInt v1)), (2, .int (Int32.ofInt v2)), (4, .int (Int32.ofInt v4)), (5, .int (Int32.ofInt v5))]) hx hb dX9_sortBy_105 hl (by decide) rfl (fun ls hl => ?_)
      refine lv_aload_n hx hb dX9_sortBy_107 rfl (lv_at hl 2 rfl) ?_
      refine lv_iload_n hx hb dX9_sortBy_108 rfl (lv_at hl 3 rfl) ?_
      refine lv_iload_n hx hb dX9_sortBy_109 rfl (lv_at hl 4 rfl) ?_
      refine lv_aload_n hx hb dX9_sortBy_110 rfl (lv_at hl 2 rfl) ?_
      refine gfWM_HiddenEdgesModel_xOf hc hP q_99 dX9_sortBy_111 ?_
      refine lv_iload hx hb dX9_sortBy_114 (lv_at hl 1 rfl) ?_
      obtain ⟨h9, h⟩ := chk_at h
      refine azWM_HiddenEdgesModel_xOf hc hP h9 dX9_sortBy_116 ?_
      refine lv_aload_n hx hb dX9_sortBy_117 rfl (lv_at hl 2 rfl) ?_
      refine gfWM_HiddenEdgesModel_xOf hc hP q_99 dX9_sortBy_118 ?_
      refine lv_iload_n hx hb dX9_sortBy_121 rfl (lv_at hl 3 rfl) ?_
      obtain ⟨h10, h⟩ := chk_at h
      refine azWM_HiddenEdgesModel_xOf hc hP h10 dX9_sortBy_122 ?_
      refine z_isub hx hb dX9_sortBy_123 ?_
      refine lv_aload_n hx hb dX9_sortBy_124 rfl (lv_at hl 2 rfl) ?_
      refine gfWM_HiddenEdgesModel_yOf hc hP q_100 dX9_sortBy_125 ?_
      refine lv_iload hx hb dX9_sortBy_128 (lv_at hl 1 rfl) ?_
      refine azWM_HiddenEdgesModel_yOf hc hP h9 dX9_sortBy_130 ?_
      refine lv_aload_n hx hb dX9_sortBy_131 rfl (lv_at hl 2 rfl) ?_
      refine gfWM_HiddenEdgesModel_yOf hc hP q_100 dX9_sortBy_132 ?_
      refine lv_iload_n hx hb dX9_sortBy_135 rfl (lv_at hl 3 rfl) ?_
      refine azWM_HiddenEdgesModel_yOf hc hP h10 dX9_sortBy_136 ?_
      refine z_isub hx hb dX9_sortBy_137 ?_
      refine lv_aload_n hx hb dX9_sortBy_138 rfl (lv_at hl 2 rfl) ?_
      refine gfWM_HiddenEdgesModel_zOf hc hP q_101 dX9_sortBy_139 ?_
      refine lv_iload hx hb dX9_sortBy_142 (lv_at hl 1 rfl) ?_
      refine azWM_HiddenEdgesModel_zOf hc hP h9 dX9_sortBy_144 ?_
      refine lv_aload_n hx hb dX9_sortBy_145 rfl (lv_at hl 2 rfl) ?_
      refine gfWM_HiddenEdgesModel_zOf hc hP q_101 dX9_sortBy_146 ?_
      refine lv_iload_n hx hb dX9_sortBy_149 rfl (lv_at hl 3 rfl) ?_
      refine azWM_HiddenEdgesModel_zOf hc hP h10 dX9_sortBy_150 ?_
      refine z_isub hx hb dX9_sortBy_151 ?_
      refine lv_aload_n hx hb dX9_sortBy_152 rfl (lv_at hl 2 rfl) ?_
      refine gfWM_HiddenEdgesModel_xOf hc hP q_99 dX9_sortBy_153 ?_
      refine lv_iload hx hb dX9_sortBy_156 (lv_at hl 0 rfl) ?_
      obtain ⟨h11, h⟩ := chk_at h
      refine azWM_HiddenEdgesModel_xOf hc hP h11 dX9_sortBy_158 ?_
      refine lv_aload_n hx hb dX9_sortBy_159 rfl (lv_at hl 2 rfl) ?_
      refine gfWM_HiddenEdgesModel_xOf hc hP q_99 dX9_sortBy_160 ?_
      refine lv_iload_n hx hb dX9_sortBy_163 rfl (lv_at hl 3 rfl) ?_
      refine azWM_HiddenEdgesModel_xOf hc hP h10 dX9_sortBy_164 ?_
      refine z_isub hx hb dX9_sortBy_165 ?_
      refine lv_aload_n hx hb dX9_sortBy_166 rfl (lv_at hl 2 rfl) ?_
      refine gfWM_HiddenEdgesModel_yOf hc hP q_100 dX9_sortBy_167 ?_
      refine lv_iload hx hb dX9_sortBy_170 (lv_at hl 0 rfl) ?_
      refine azWM_HiddenEdgesModel_yOf hc hP h11 dX9_sortBy_172 ?_
      refine lv_aload_n hx hb dX9_sortBy_173 rfl (lv_at hl 2 rfl) ?_
      refine gfWM_HiddenEdgesModel_yOf hc hP q_100 dX9_sortBy_174 ?_
      refine lv_iload_n hx hb dX9_sortBy_177 rfl (lv_at hl 3 rfl) ?_
      refine azWM_HiddenEdgesModel_yOf hc hP h10 dX9_sortBy_178 ?_
      refine z_isub hx hb dX9_sortBy_179 ?_
      refine lv_aload_n hx hb dX9_sortBy_180 rfl (lv_at hl 2 rfl) ?_
      refine gfWM_HiddenEdgesModel_zOf hc hP q_101 dX9_sortBy_181 ?_
      refine lv_iload hx hb dX9_sortBy_184 (lv_at hl 0 rfl) ?_
      refine azWM_HiddenEdgesModel_zOf hc hP h11 dX9_sortBy_186 ?_
      refine lv_aload_n hx hb dX9_sortBy_187 rfl (lv_at hl 2 rfl) ?_
      refine gfWM_HiddenEdgesModel_zOf hc hP q_101 dX9_sortBy_188 ?_
      refine lv_iload_n hx hb dX9_sortBy_191 rfl (lv_at hl 3 rfl) ?_
      refine azWM_HiddenEdgesModel_zOf hc hP h10 dX9_sortBy_192 ?_
      refine z_isub hx hb dX9_sortBy_193 ?_
      obtain ⟨S12, x14, hk13, h⟩ := ob2_at h
      refine cl_Vl (As := [.int (Int32.ofInt v1), .int (Int32.ofInt v2), .int (Int32.ofInt ((za S6 0 (x5).toNat) - (za S6 0 (v1).toNat))), .int (Int32.ofInt ((za S6 1 (x5).toNat) - (za S6 1 (v1).toNat))), .int (Int32.ofInt ((za S6 2 (x5).toNat) - (za S6 2 (v1).toNat))), .int (Int32.ofInt ((za S6 0 (x8).toNat) - (za S6 0 (v1).toNat))), .int (Int32.ofInt ((za S6 1 (x8).toNat) - (za S6 1 (v1).toNat))), .int (Int32.ofInt ((za S6 2 (x8).toNat) - (za S6 2 (v1).toNat)))]) (rest := []) hc k_X9_volBy q_564 (c_X9_volBy hk13) hP hS (WM_0 a g (em S6)) rfl rfl rfl hl (Nat.le_of_ble_eq_true rfl) dX9_sortBy_194 (Nat.le_of_ble_eq_true rfl) (Nat.le_of_ble_eq_true rfl) rfl (fun H locs hP hS => ?_)
      refine lv_lstore (lv' := [(8, .long (Int64.ofInt x14)), (7, .int (Int32.ofInt x8)), (6, .int (Int32.ofInt x5)), (0, .ref (a 0)), (1, .int (Int32.ofInt v1)), (2, .int (Int32.ofInt v2)), (4, .int (Int32.ofInt v4)), (5, .int (Int32.ofInt v5))]) hx hb dX9_sortBy_197 hl (by decide) rfl (fun ls hl => ?_)
      refine lv_lload hx hb dX9_sortBy_199 (lv_at hl 0 rfl) ?_
      refine lv_lconst (v := Int64.ofInt (0 : Int)) hx hb dX9_sortBy_201 (by decide) ?_
      refine W.lcmp hx hb dX9_sortBy_202 ?_
      obtain ⟨h15, h⟩ := chk_at h
      refine zc_if_ne (tgt := 208) hx hb h15 (by decide) dX9_sortBy_203 (by decide) (fun hq => ?_) (fun hq => ?_)
      · replace h := if_no hq h
        refine lv_aload_n hx hb dX9_sortBy_208 rfl (lv_at hl 3 rfl) ?_
        refine lv_iload hx hb dX9_sortBy_209 (lv_at hl 6 rfl) ?_
        obtain ⟨S16, x18, hk17, h⟩ := ob2_at h
        refine cl_Vl (As := [.int (Int32.ofInt v4)]) (rest := []) hc k_X9_turnOf q_571 (c_X9_turnOf hk17) hP hS (WM_0 a g (em S12)) rfl rfl rfl hl (Nat.le_of_ble_eq_true rfl) dX9_sortBy_211 (Nat.le_of_ble_eq_true rfl) (Nat.le_of_ble_eq_true rfl) rfl (fun H locs hP hS => ?_)
        refine lv_lconst (v := Int64.ofInt (0 : Int)) hx hb dX9_sortBy_214 (by decide) ?_
        refine W.lcmp hx hb dX9_sortBy_215 ?_
        obtain ⟨h19, h⟩ := chk_at h
        refine zc_if_le (tgt := 223) hx hb h19 (by decide) dX9_sortBy_216 (by decide) (fun hq => ?_) (fun hq => ?_)
        · replace h := if_yes hq h
          refine lv_iconst (v := Int32.ofInt (0 : Int)) hx hb dX9_sortBy_223 (by decide) ?_
          exact t_X9_sortBy_p224 hc hr S16 v5 (0 : Int) h H locs ls hP hS (lv_sub hl [3, 7] rfl)
        · replace h := if_no hq h
          refine lv_iconst (v := Int32.ofInt (1 : Int)) hx hb dX9_sortBy_219 (by decide) ?_
          refine lv_goto (tgt := 224) hx hb dX9_sortBy_220 (by decide) ?_
          exact t_X9_sortBy_p224 hc hr S16 v5 (1 : Int) h H locs ls hP hS (lv_sub hl [3, 7] rfl)
      · replace h := if_yes hq h
        refine lv_iconst (v := Int32.ofInt (2 : Int)) hx hb dX9_sortBy_206 (by decide) ?_
        obtain rfl := Option.some.inj h
        exact hr _ _ _ _ dX9_sortBy_207 hP hS
    · replace h := if_no hq h
      refine lv_aload_n hx hb dX9_sortBy_41 rfl (lv_at hl 0 rfl) ?_
      refine lv_iload hx hb dX9_sortBy_42 (lv_at hl 5 rfl) ?_
      refine lv_iload_n hx hb dX9_sortBy_44 rfl (lv_at hl 1 rfl) ?_
      obtain ⟨S20, x22, hk21, h⟩ := ob2_at h
      refine cl_Vi (As := [.int (Int32.ofInt v6), .int (Int32.ofInt v1)]) (rest := []) hc k_X9_hasCorner q_220 (c_X9_hasCorner hk21) hP hS (WM_0 a g (em S)) rfl rfl rfl hl (Nat.le_of_ble_eq_true rfl) dX9_sortBy_45 (Nat.le_of_ble_eq_true rfl) (Nat.le_of_ble_eq_true rfl) rfl (fun H locs hP hS => ?_)
      obtain ⟨h23, h⟩ := chk_at h
      refine z_if_eq (tgt := 81) hx hb h23 dX9_sortBy_48 (by decide) (fun hq => ?_) (fun hq => ?_)
      · replace h := if_yes hq h
        obtain ⟨x24, ex24⟩ : ∃ y : Int, y = v6 + (1 : Int) := ⟨_, rfl⟩
        replace h := olet_at ex24 h
        refine lv_iinc (v := Int32.ofInt x24) (lv' := [(6, .int (Int32.ofInt x24)), (0, .ref (a 0)), (1, .int (Int32.ofInt v1)), (2, .int (Int32.ofInt v2)), (4, .int (Int32.ofInt v4)), (5, .int (Int32.ofInt v5))]) hx hb dX9_sortBy_81 hl (k := 5) rfl (by rw [ex24, Int32.ofInt_add]) (by decide) rfl (fun ls hl => ?_)
        refine lv_goto (tgt := 32) hx hb dX9_sortBy_84 (by decide) ?_
        exact ih S20 v1 v2 v4 v5 x24 h H locs ls hP hS (lv_sub hl [1, 2, 3, 4, 5, 0] rfl)
      · replace h := if_no hq h
        refine lv_aload_n hx hb dX9_sortBy_51 rfl (lv_at hl 0 rfl) ?_
        refine lv_iload hx hb dX9_sortBy_52 (lv_at hl 5 rfl) ?_
        refine lv_iload_n hx hb dX9_sortBy_54 rfl (lv_at hl 2 rfl) ?_
        obtain ⟨S25, x27, hk26, h⟩ := ob2_at h
        refine cl_Vi (As := [.int (Int32.ofInt v6), .int (Int32.ofInt v2)]) (rest := []) hc k_X9_hasCorner q_220 (c_X9_hasCorner hk26) hP hS (WM_0 a g (em S20)) rfl rfl rfl hl (Nat.le_of_ble_eq_true rfl) dX9_sortBy_55 (Nat.le_of_ble_eq_true rfl) (Nat.le_of_ble_eq_true rfl) rfl (fun H locs hP hS => ?_)
        obtain ⟨h28, h⟩ := chk_at h
        refine z_if_eq (tgt := 81) hx hb h28 dX9_sortBy_58 (by decide) (fun hq => ?_) (fun hq => ?_)
        · replace h := if_yes hq h
          obtain ⟨x29, ex29⟩ : ∃ y : Int, y = v6 + (1 : Int) := ⟨_, rfl⟩
          replace h := olet_at ex29 h
          refine lv_iinc (v := Int32.ofInt x29) (lv' := [(6, .int (Int32.ofInt x29)), (0, .ref (a 0)), (1, .int (Int32.ofInt v1)), (2, .int (Int32.ofInt v2)), (4, .int (Int32.ofInt v4)), (5, .int (Int32.ofInt v5))]) hx hb dX9_sortBy_81 hl (k := 5) rfl (by rw [ex29, Int32.ofInt_add]) (by decide) rfl (fun ls hl => ?_)
          refine lv_goto (tgt := 32) hx hb dX9_sortBy_84 (by decide) ?_
          exact ih S25 v1 v2 v4 v5 x29 h H locs ls hP hS (lv_sub hl [1, 2, 3, 4, 5, 0] rfl)
        · replace h := if_no hq h
          refine lv_iload hx hb dX9_sortBy_61 (lv_at hl 3 rfl) ?_
          refine lv_bipush (v := Int32.ofInt (-9 : Int)) hx hb dX9_sortBy_63 (by decide) ?_
          obtain ⟨h30, h⟩ := chk_at h
          refine z_icmp_ne (tgt := 73) hx hb h30 (by decide) dX9_sortBy_65 (by decide) (fun hq => ?_) (fun hq => ?_)
          · replace h := if_no hq h
            refine lv_iload hx hb dX9_sortBy_73 (lv_at hl 3 rfl) ?_
            refine lv_istore (lv' := [(4, .int (Int32.ofInt v4)), (0, .ref (a 0)), (1, .int (Int32.ofInt v1)), (2, .int (Int32.ofInt v2)), (5, .int (Int32.ofInt v5)), (6, .int (Int32.ofInt v6))]) hx hb dX9_sortBy_75 hl (by decide) rfl (fun ls hl => ?_)
            refine lv_iload hx hb dX9_sortBy_77 (lv_at hl 5 rfl) ?_
            refine lv_istore (lv' := [(5, .int (Int32.ofInt v6)), (4, .int (Int32.ofInt v4)), (0, .ref (a 0)), (1, .int (Int32.ofInt v1)), (2, .int (Int32.ofInt v2)), (6, .int (Int32.ofInt v6))]) hx hb dX9_sortBy_79 hl (by decide) rfl (fun ls hl => ?_)
            obtain ⟨x31, ex31⟩ : ∃ y : Int, y = v6 + (1 : Int) := ⟨_, rfl⟩
            replace h := olet_at ex31 h
            refine lv_iinc (v := Int32.ofInt x31) (lv' := [(6, .int (Int32.ofInt x31)), (5, .int (Int32.ofInt v6)), (4, .int (Int32.ofInt v4)), (0, .ref (a 0)), (1, .int (Int32.ofInt v1)), (2, .int (Int32.ofInt v2))]) hx hb dX9_sortBy_81 hl (k := 5) rfl (by rw [ex31, Int32.ofInt_add]) (by decide) rfl (fun ls hl => ?_)
            refine lv_goto (tgt := 32) hx hb dX9_sortBy_84 (by decide) ?_
            exact ih S25 v1 v2 v4 v6 x31 h H locs ls hP hS (lv_sub hl [3, 4, 5, 2, 1, 0] rfl)
          · replace h := if_yes hq h
            refine lv_iload hx hb dX9_sortBy_68 (lv_at hl 5 rfl) ?_
            refine lv_goto (tgt := 75) hx hb dX9_sortBy_70 (by decide) ?_
            refine lv_istore (lv' := [(4, .int (Int32.ofInt v6)), (0, .ref (a 0)), (1, .int (Int32.ofInt v1)), (2, .int (Int32.ofInt v2)), (5, .int (Int32.ofInt v5)), (6, .int (Int32.ofInt v6))]) hx hb dX9_sortBy_75 hl (by decide) rfl (fun ls hl => ?_)
            refine lv_iload hx hb dX9_sortBy_77 (lv_at hl 5 rfl) ?_
            refine lv_istore (lv' := [(5, .int (Int32.ofInt v6)), (4, .int (Int32.ofInt v6)), (0, .ref (a 0)), (1, .int (Int32.ofInt v1)), (2, .int (Int32.ofInt v2)), (6, .int (Int32.ofInt v6))]) hx hb dX9_sortBy_79 hl (by decide) rfl (fun ls hl => ?_)
            obtain ⟨x32, ex32⟩ : ∃ y : Int, y = v6 + (1 : Int) := ⟨_, rfl⟩
            replace h := olet_at ex32 h
            refine lv_iinc (v := Int32.ofInt x32) (lv' := [(6, .int (Int32.ofInt x32)), (5, .int (Int32.ofInt v6)), (4, .int (Int32.ofInt v6)), (0, .ref (a 0)), (1, .int (Int32.ofInt v1)), (2, .int (Int32.ofInt v2))]) hx hb dX9_sortBy_81 hl (k := 5) rfl (by rw [ex32, Int32.ofInt_add]) (by decide) rfl (fun ls hl => ?_)
            refine lv_goto (tgt := 32) hx hb dX9_sortBy_84 (by decide) ?_
            exact ih S25 v1 v2 v6 v6 x32 h H locs ls hP hS (lv_sub hl [3, 4, 5, 2, 1, 0] rfl)
set_option maxHeartbeats 4000000 in
set_option maxRecDepth 100000 in
theorem t_X9_sortBy {z : SZ × Int} (hc : Cx p R s m args c D (tysWM g) A (WM a g) cX9_sortBy 10 RX9 3 79) (hr : Rti p l e R s m args below meth c Q D A (WM a g) cX9_sortBy (em z.1, Int32.ofInt z.2)) : ∀ (S : SZ) (v1 : Int) (v2 : Int) (v3 : Int), f_X9_sortBy S v1 v2 v3 = some z → Go p l e R s m args below meth c Q D A (WM a g) 10 (em S) 0 [(0, .ref (a 0)), (1, .int (Int32.ofInt v1)), (2, .int (Int32.ofInt v2)), (3, .int (Int32.ofInt v3))] [] := by
  obtain ⟨⟨hx, hb, hml, hown, hts⟩, -, -, -, hnf, hno⟩ := id hc
  intro S v1 v2 v3 h H locs ls hP hS hl
  rw [f_X9_sortBy] at h
  replace hl : lv_has ls 10 [(0, .ref (a 0)), (1, .int (Int32.ofInt v1)), (2, .int (Int32.ofInt v2)), (3, .int (Int32.ofInt v3))] := hl
  refine lv_iload_n hx hb dX9_sortBy_0 rfl (lv_at hl 3 rfl) ?_
  refine lv_iconst (v := Int32.ofInt (2 : Int)) hx hb dX9_sortBy_1 (by decide) ?_
  obtain ⟨h1, h⟩ := chk_at h
  refine z_icmp_lt (tgt := 10) hx hb h1 (by decide) dX9_sortBy_2 (by decide) (fun hq => ?_) (fun hq => ?_)
  · replace h := if_yes hq h
    refine lv_iload_n hx hb dX9_sortBy_10 rfl (lv_at hl 3 rfl) ?_
    refine lv_iconst (v := Int32.ofInt (2 : Int)) hx hb dX9_sortBy_11 (by decide) ?_
    refine z_icmp_ge (tgt := 19) hx hb h1 (by decide) dX9_sortBy_12 (by decide) (fun hq => ?_) (fun hq => ?_)
    · replace h := if_yes hq h
      refine lv_iconst (v := Int32.ofInt (5 : Int)) hx hb dX9_sortBy_19 (by decide) ?_
      obtain rfl := Option.some.inj h
      exact hr _ _ _ _ dX9_sortBy_20 hP hS
    · replace h := if_no hq h
      refine lv_iload_n hx hb dX9_sortBy_15 rfl (lv_at hl 3 rfl) ?_
      refine lv_goto (tgt := 20) hx hb dX9_sortBy_16 (by decide) ?_
      obtain rfl := Option.some.inj h
      exact hr _ _ _ _ dX9_sortBy_20 hP hS
  · replace h := if_no hq h
    refine lv_iload_n hx hb dX9_sortBy_5 rfl (lv_at hl 3 rfl) ?_
    refine lv_iconst (v := Int32.ofInt (2 : Int)) hx hb dX9_sortBy_6 (by decide) ?_
    refine z_icmp_le (tgt := 21) hx hb h1 (by decide) dX9_sortBy_7 (by decide) (fun hq => ?_) (fun hq => ?_)
    · replace h := if_yes hq h
      refine lv_bipush (v := Int32.ofInt (-9 : Int)) hx hb dX9_sortBy_21 (by decide) ?_
      refine lv_istore (lv' := [(4, .int (Int32.ofInt (-9 : Int))), (0, .ref (a 0)), (1, .int (Int32.ofInt v1)), (2, .int (Int32.ofInt v2)), (3, .int (Int32.ofInt v3))]) hx hb dX9_sortBy_23 hl (by decide) rfl (fun ls hl => ?_)
      refine lv_bipush (v := Int32.ofInt (-9 : Int)) hx hb dX9_sortBy_25 (by decide) ?_
      refine lv_istore (lv' := [(5, .int (Int32.ofInt (-9 : Int))), (4, .int (Int32.ofInt (-9 : Int))), (0, .ref (a 0)), (1, .int (Int32.ofInt v1)), (2, .int (Int32.ofInt v2)), (3, .int (Int32.ofInt v3))]) hx hb dX9_sortBy_27 hl (by decide) rfl (fun ls hl => ?_)
      refine lv_iconst (v := Int32.ofInt (0 : Int)) hx hb dX9_sortBy_29 (by decide) ?_
      refine lv_istore (lv' := [(6, .int (Int32.ofInt (0 : Int))), (5, .int (Int32.ofInt (-9 : Int))), (4, .int (Int32.ofInt (-9 : Int))), (0, .ref (a 0)), (1, .int (Int32.ofInt v1)), (2, .int (Int32.ofInt v2)), (3, .int (Int32.ofInt v3))]) hx hb dX9_sortBy_30 hl (by decide) rfl (fun ls hl => ?_)
      exact t_X9_sortBy_p32 hc hr FU S v1 v2 (-9 : Int) (-9 : Int) (0 : Int) h H locs ls hP hS (lv_sub hl [3, 4, 5, 2, 1, 0] rfl)
    · replace h := if_no hq h
      refine lv_iload_n hx hb dX9_sortBy_10 rfl (lv_at hl 3 rfl) ?_
      refine lv_iconst (v := Int32.ofInt (2 : Int)) hx hb dX9_sortBy_11 (by decide) ?_
      refine z_icmp_ge (tgt := 19) hx hb h1 (by decide) dX9_sortBy_12 (by decide) (fun hq => ?_) (fun hq => ?_)
      · replace h := if_yes hq h
        refine lv_iconst (v := Int32.ofInt (5 : Int)) hx hb dX9_sortBy_19 (by decide) ?_
        obtain rfl := Option.some.inj h
        exact hr _ _ _ _ dX9_sortBy_20 hP hS
      · replace h := if_no hq h
        refine lv_iload_n hx hb dX9_sortBy_15 rfl (lv_at hl 3 rfl) ?_
        refine lv_goto (tgt := 20) hx hb dX9_sortBy_16 (by decide) ?_
        obtain rfl := Option.some.inj h
        exact hr _ _ _ _ dX9_sortBy_20 hP hS
abbrev rm_X9_sortBy : Room := { frames := 3, cells := 0, slots := 0, locals := 79 }
theorem c_X9_sortBy {l : Launch} {D : va_G} {a : Nat → Nat} {g : Nat → ClassId} {S : SZ} {v1 : Int} {v2 : Int} {v3 : Int} {Z1 : SZ} {r1 : Int} (h : f_X9_sortBy S v1 v2 v3 = some (Z1, r1)) : MetI l D (tysWM g) (WM a g) E0 yX9_sortBy cX9_sortBy 10 (some .int) rm_X9_sortBy [.ref (a 0), .int (Int32.ofInt v1), .int (Int32.ofInt v2), .int (Int32.ofInt v3)] (em S) (em Z1, Int32.ofInt r1) := mk_i (WM_same a g) (by decide) (em Z1, Int32.ofInt r1) (Nat.le_of_ble_eq_true rfl) (fun p e s m args below meth c A Q hc hE hr => t_X9_sortBy (z := (Z1, r1)) hc hr S v1 v2 v3 h)
theorem k_X9_sortBy : CalV RX9 yX9_sortBy cX9_sortBy 10 (some .int) rm_X9_sortBy 3 := ⟨q_557, q_558, q_5, q_559, by decide +kernel, rfl, rfl⟩
set_option maxHeartbeats 4000000 in
set_option maxRecDepth 100000 in
theorem t_X9_common_p6 {z : SZ × Int} (hc : Cx p R s m args c D (tysWM g) A (WM a g) cX9_common 10 RX9 0 0) (hr : Rtl p l e R s m args below meth c Q D A (WM a g) cX9_common (em z.1, Int64.ofInt z.2)) : ∀ (fu : Nat) (S : SZ) (v4 : Int) (v6 : Int), f_X9_common_p6 fu S v4 v6 = some z → Go p l e R s m args below meth c Q D A (WM a g) 10 (em S) 6 [(4, .long (Int64.ofInt v4)), (6, .long (Int64.ofInt v6))] [] := by
  obtain ⟨⟨hx, hb, hml, hown, hts⟩, -, -, -, hnf, hno⟩ := id hc
  intro fu
  induction fu with
  | zero =>
    intro S v4 v6 h
    rw [f_X9_common_p6] at h
    cases h
  | succ fu ih =>
    intro S v4 v6 h H locs ls hP hS hl
    rw [f_X9_common_p6] at h
    refine lv_lload hx hb dX9_common_6 (lv_at hl 1 rfl) ?_
    refine lv_lconst (v := Int64.ofInt (0 : Int)) hx hb dX9_common_8 (by decide) ?_
    refine W.lcmp hx hb dX9_common_9 ?_
    obtain ⟨h1, h⟩ := chk_at h
    refine zc_if_eq (tgt := 31) hx hb h1 (by decide) dX9_common_10 (by decide) (fun hq => ?_) (fun hq => ?_)
    · replace h := if_yes hq h
      refine lv_lload hx hb dX9_common_31 (lv_at hl 0 rfl) ?_
      obtain rfl := Option.some.inj h
      exact hr _ _ _ _ dX9_common_33 hP hS
    · replace h := if_no hq h
      refine lv_lload hx hb dX9_common_13 (lv_at hl 0 rfl) ?_
      refine lv_lload hx hb dX9_common_15 (lv_at hl 1 rfl) ?_
      obtain ⟨h2, h⟩ := chk_at h
      obtain ⟨h3, h⟩ := chk_at h
      refine z_lrem hx hb h2 h1 h3 dX9_common_17 ?_
      refine z_topl (fun x4 ex4 => ?_)
      replace h := olet_at ex4 h
      refine lv_lstore (lv' := [(8, .long (Int64.ofInt x4)), (4, .long (Int64.ofInt v4)), (6, .long (Int64.ofInt v6))]) hx hb dX9_common_18 hl (by decide) rfl (fun ls hl => ?_)
      refine lv_lload hx hb dX9_common_20 (lv_at hl 2 rfl) ?_
      refine lv_lstore (lv' := [(4, .long (Int64.ofInt v6)), (8, .long (Int64.ofInt x4)), (6, .long (Int64.ofInt v6))]) hx hb dX9_common_22 hl (by decide) rfl (fun ls hl => ?_)
      refine lv_lload hx hb dX9_common_24 (lv_at hl 1 rfl) ?_
      refine lv_lstore (lv' := [(6, .long (Int64.ofInt x4)), (4, .long (Int64.ofInt v6)), (8, .long (Int64.ofInt x4))]) hx hb dX9_common_26 hl (by decide) rfl (fun ls hl => ?_)
      refine lv_goto (tgt := 6) hx hb dX9_common_28 (by decide) ?_
      exact ih S v6 x4 h H locs ls hP hS (lv_sub hl [1, 0] rfl)
set_option maxHeartbeats 4000000 in
set_option maxRecDepth 100000 in
theorem t_X9_common {z : SZ × Int} (hc : Cx p R s m args c D (tysWM g) A (WM a g) cX9_common 10 RX9 0 0) (hr : Rtl p l e R s m args below meth c Q D A (WM a g) cX9_common (em z.1, Int64.ofInt z.2)) : ∀ (S : SZ) (v0 : Int) (v2 : Int), f_X9_common S v0 v2 = some z → Go p l e R s m args below meth c Q D A (WM a g) 10 (em S) 0 [(0, .long (Int64.ofInt v0)), (2, .long (Int64.ofInt v2))] [] := by
  obtain ⟨⟨hx, hb, hml, hown, hts⟩, -, -, -, hnf, hno⟩ := id hc
  intro S v0 v2 h H locs ls hP hS hl
  rw [f_X9_common] at h
  replace hl : lv_has ls 10 [(0, .long (Int64.ofInt v0)), (2, .long (Int64.ofInt v2))] := hl
  refine lv_lload_n hx hb dX9_common_0 rfl (lv_at hl 0 rfl) ?_
  refine lv_lstore (lv' := [(4, .long (Int64.ofInt v0)), (0, .long (Int64.ofInt v0)), (2, .long (Int64.ofInt v2))]) hx hb dX9_common_1 hl (by decide) rfl (fun ls hl => ?_)
  refine lv_lload_n hx hb dX9_common_3 rfl (lv_at hl 2 rfl) ?_
  refine lv_lstore (lv' := [(6, .long (Int64.ofInt v2)), (4, .long (Int64.ofInt v0)), (0, .long (Int64.ofInt v0)), (2, .long (Int64.ofInt v2))]) hx hb dX9_common_4 hl (by decide) rfl (fun ls hl => ?_)
  exact t_X9_common_p6 hc hr FU S v0 v2 h H locs ls hP hS (lv_sub hl [1, 0] rfl)
abbrev rm_X9_common : Room := { frames := 0, cells := 0, slots := 0, locals := 0 }
theorem c_X9_common {l : Launch} {D : va_G} {a : Nat → Nat} {g : Nat → ClassId} {S : SZ} {v0 : Int} {v2 : Int} {Z1 : SZ} {r1 : Int} (h : f_X9_common S v0 v2 = some (Z1, r1)) : MetL l D (tysWM g) (WM a g) E0 yX9_common cX9_common 10 (some .long) rm_X9_common [.long (Int64.ofInt v0), .long (Int64.ofInt v2)] (em S) (em Z1, Int64.ofInt r1) := mk_l (WM_same a g) (by decide) (em Z1, Int64.ofInt r1) (Nat.le_of_ble_eq_true rfl) (fun p e s m args below meth c A Q hc hE hr => t_X9_common (z := (Z1, r1)) hc hr S v0 v2 h)
theorem k_X9_common : CalS yX9_common cX9_common 10 (some .long) rm_X9_common 2 := ⟨q_580, q_5, q_581, by decide +kernel, rfl, rfl⟩
set_option maxHeartbeats 4000000 in
set_option maxRecDepth 100000 in
theorem t_X9_cuts_p129 {z : SZ} (hc : Cx p R s m args c D (tysWM g) A (WM a g) cX9_cuts 15 RX9 1 29) (hr : Rtv p l e R s m args below meth c Q D A (WM a g) cX9_cuts (em z)) : ∀ (fu : Nat) (S : SZ) (v1 : Int) (v8 : Int) (v10 : Int) (v12 : Int) (v13 : Int) (v14 : Int), f_X9_cuts_p129 fu S v1 v8 v10 v12 v13 v14 = some z → Go p l e R s m args below meth c Q D A (WM a g) 15 (em S) 129 [(0, .ref (a 0)), (1, .int (Int32.ofInt v1)), (8, .long (Int64.ofInt v8)), (10, .long (Int64.ofInt v10)), (12, .int (Int32.ofInt v12)), (13, .int (Int32.ofInt v13)), (14, .int (Int32.ofInt v14))] [] := by
  obtain ⟨⟨hx, hb, hml, hown, hts⟩, -, -, -, hnf, hno⟩ := id hc
  intro fu
  induction fu with
  | zero =>
    intro S v1 v8 v10 v12 v13 v14 h
    rw [f_X9_cuts_p129] at h
    cases h
  | succ fu ih =>
    intro S v1 v8 v10 v12 v13 v14 h H locs ls hP hS hl
    rw [f_X9_cuts_p129] at h
    refine lv_iload hx hb dX9_cuts_129 (lv_at hl 6 rfl) ?_
    refine lv_iload hx hb dX9_cuts_131 (lv_at hl 5 rfl) ?_
    obtain ⟨h1, h⟩ := chk_at h
    obtain ⟨h2, h⟩ := chk_at h
    refine z_icmp_le (tgt := 186) hx hb h1 h2 dX9_cuts_133 (by decide) (fun hq => ?_) (fun hq => ?_)
    · replace h := if_yes hq h
      refine lv_aload_n hx hb dX9_cuts_186 rfl (lv_at hl 0 rfl) ?_
      refine gfWM_HiddenEdgesModel_cutUp hc hP q_113 dX9_cuts_187 ?_
      refine lv_iload hx hb dX9_cuts_190 (lv_at hl 4 rfl) ?_
      refine lv_iload hx hb dX9_cuts_192 (lv_at hl 5 rfl) ?_
      refine z_iadd hx hb dX9_cuts_194 ?_
      refine lv_lload hx hb dX9_cuts_195 (lv_at hl 2 rfl) ?_
      obtain ⟨h3, h⟩ := chk_at h
      refine szWM_HiddenEdgesModel_cutUp hc hP hS h3 dX9_cuts_197 (fun H locs hP hS => ?_)
      obtain ⟨S4, eS4⟩ : ∃ z, z = ub S 0 ((v12 + v13)).toNat v8 := ⟨_, rfl⟩
      replace h := olet_at eS4 h
      rw [← eS4] at hP
      refine lv_aload_n hx hb dX9_cuts_198 rfl (lv_at hl 0 rfl) ?_
      refine gfWM_HiddenEdgesModel_cutDown hc hP q_114 dX9_cuts_199 ?_
      refine lv_iload hx hb dX9_cuts_202 (lv_at hl 4 rfl) ?_
      refine lv_iload hx hb dX9_cuts_204 (lv_at hl 5 rfl) ?_
      refine z_iadd hx hb dX9_cuts_206 ?_
      refine lv_lload hx hb dX9_cuts_207 (lv_at hl 3 rfl) ?_
      refine szWM_HiddenEdgesModel_cutDown hc hP hS h3 dX9_cuts_209 (fun H locs hP hS => ?_)
      obtain ⟨S5, eS5⟩ : ∃ z, z = ub S4 1 ((v12 + v13)).toNat v10 := ⟨_, rfl⟩
      replace h := olet_at eS5 h
      rw [← eS5] at hP
      refine lv_aload_n hx hb dX9_cuts_210 rfl (lv_at hl 0 rfl) ?_
      refine gfWM_HiddenEdgesModel_manyCuts hc hP q_112 dX9_cuts_211 ?_
      refine lv_iload_n hx hb dX9_cuts_214 rfl (lv_at hl 1 rfl) ?_
      refine lv_dup2_11 hx hb dX9_cuts_215 rfl rfl ?_
      obtain ⟨h6, h⟩ := chk_at h
      refine azWM_HiddenEdgesModel_manyCuts hc hP h6 dX9_cuts_216 ?_
      refine lv_iconst (v := Int32.ofInt (1 : Int)) hx hb dX9_cuts_217 (by decide) ?_
      refine z_iadd hx hb dX9_cuts_218 ?_
      refine szWM_HiddenEdgesModel_manyCuts hc hP hS h6 dX9_cuts_219 (fun H locs hP hS => ?_)
      obtain ⟨S7, eS7⟩ : ∃ z, z = ua S5 12 (v1).toNat ((za S5 12 (v1).toNat) + (1 : Int)) := ⟨_, rfl⟩
      replace h := olet_at eS7 h
      rw [← eS7] at hP
      obtain rfl := Option.some.inj h
      exact hr _ _ _ _ dX9_cuts_220 hP hS
    · replace h := if_no hq h
      refine lv_aload_n hx hb dX9_cuts_136 rfl (lv_at hl 0 rfl) ?_
      refine gfWM_HiddenEdgesModel_cutUp hc hP q_113 dX9_cuts_137 ?_
      refine lv_iload hx hb dX9_cuts_140 (lv_at hl 4 rfl) ?_
      refine lv_iload hx hb dX9_cuts_142 (lv_at hl 6 rfl) ?_
      refine z_iadd hx hb dX9_cuts_144 ?_
      refine lv_aload_n hx hb dX9_cuts_145 rfl (lv_at hl 0 rfl) ?_
      refine gfWM_HiddenEdgesModel_cutUp hc hP q_113 dX9_cuts_146 ?_
      refine lv_iload hx hb dX9_cuts_149 (lv_at hl 4 rfl) ?_
      refine lv_iload hx hb dX9_cuts_151 (lv_at hl 6 rfl) ?_
      refine z_iadd hx hb dX9_cuts_153 ?_
      refine lv_iconst (v := Int32.ofInt (1 : Int)) hx hb dX9_cuts_154 (by decide) ?_
      refine z_isub hx hb dX9_cuts_155 ?_
      obtain ⟨h8, h⟩ := chk_at h
      refine azWM_HiddenEdgesModel_cutUp hc hP h8 dX9_cuts_156 ?_
      obtain ⟨h9, h⟩ := chk_at h
      refine szWM_HiddenEdgesModel_cutUp hc hP hS h9 dX9_cuts_157 (fun H locs hP hS => ?_)
      obtain ⟨S10, eS10⟩ : ∃ z, z = ub S 0 ((v12 + v14)).toNat (zb S 0 (((v12 + v14) - (1 : Int))).toNat) := ⟨_, rfl⟩
      replace h := olet_at eS10 h
      rw [← eS10] at hP
      refine lv_aload_n hx hb dX9_cuts_158 rfl (lv_at hl 0 rfl) ?_
      refine gfWM_HiddenEdgesModel_cutDown hc hP q_114 dX9_cuts_159 ?_
      refine lv_iload hx hb dX9_cuts_162 (lv_at hl 4 rfl) ?_
      refine lv_iload hx hb dX9_cuts_164 (lv_at hl 6 rfl) ?_
      refine z_iadd hx hb dX9_cuts_166 ?_
      refine lv_aload_n hx hb dX9_cuts_167 rfl (lv_at hl 0 rfl) ?_
      refine gfWM_HiddenEdgesModel_cutDown hc hP q_114 dX9_cuts_168 ?_
      refine lv_iload hx hb dX9_cuts_171 (lv_at hl 4 rfl) ?_
      refine lv_iload hx hb dX9_cuts_173 (lv_at hl 6 rfl) ?_
      refine z_iadd hx hb dX9_cuts_175 ?_
      refine lv_iconst (v := Int32.ofInt (1 : Int)) hx hb dX9_cuts_176 (by decide) ?_
      refine z_isub hx hb dX9_cuts_177 ?_
      refine azWM_HiddenEdgesModel_cutDown hc hP h8 dX9_cuts_178 ?_
      refine szWM_HiddenEdgesModel_cutDown hc hP hS h9 dX9_cuts_179 (fun H locs hP hS => ?_)
      obtain ⟨S11, eS11⟩ : ∃ z, z = ub S10 1 ((v12 + v14)).toNat (zb S10 1 (((v12 + v14) - (1 : Int))).toNat) := ⟨_, rfl⟩
      replace h := olet_at eS11 h
      rw [← eS11] at hP
      obtain ⟨x12, ex12⟩ : ∃ y : Int, y = v14 + (-1 : Int) := ⟨_, rfl⟩
      replace h := olet_at ex12 h
      refine lv_iinc (v := Int32.ofInt x12) (lv' := [(14, .int (Int32.ofInt x12)), (0, .ref (a 0)), (1, .int (Int32.ofInt v1)), (8, .long (Int64.ofInt v8)), (10, .long (Int64.ofInt v10)), (12, .int (Int32.ofInt v12)), (13, .int (Int32.ofInt v13))]) hx hb dX9_cuts_180 hl (k := 6) rfl (by rw [ex12, Int32.ofInt_add]) (by decide) rfl (fun ls hl => ?_)
      refine lv_goto (tgt := 129) hx hb dX9_cuts_183 (by decide) ?_
      exact ih S11 v1 v8 v10 v12 v13 x12 h H locs ls hP hS (lv_sub hl [1, 2, 3, 4, 5, 6, 0] rfl)
set_option maxHeartbeats 4000000 in
set_option maxRecDepth 100000 in
theorem t_X9_cuts_p77 {z : SZ} (hc : Cx p R s m args c D (tysWM g) A (WM a g) cX9_cuts 15 RX9 1 29) (hr : Rtv p l e R s m args below meth c Q D A (WM a g) cX9_cuts (em z)) : ∀ (S : SZ) (v1 : Int) (v8 : Int) (v10 : Int) (v12 : Int) (v13 : Int), f_X9_cuts_p77 S v1 v8 v10 v12 v13 = some z → Go p l e R s m args below meth c Q D A (WM a g) 15 (em S) 77 [(0, .ref (a 0)), (1, .int (Int32.ofInt v1)), (8, .long (Int64.ofInt v8)), (10, .long (Int64.ofInt v10)), (12, .int (Int32.ofInt v12)), (13, .int (Int32.ofInt v13))] [] := by
  obtain ⟨⟨hx, hb, hml, hown, hts⟩, -, -, -, hnf, hno⟩ := id hc
  intro S v1 v8 v10 v12 v13 h H locs ls hP hS hl
  rw [f_X9_cuts_p77] at h
  refine lv_iload hx hb dX9_cuts_77 (lv_at hl 5 rfl) ?_
  refine lv_aload_n hx hb dX9_cuts_79 rfl (lv_at hl 0 rfl) ?_
  refine gfWM_HiddenEdgesModel_manyCuts hc hP q_112 dX9_cuts_80 ?_
  refine lv_iload_n hx hb dX9_cuts_83 rfl (lv_at hl 1 rfl) ?_
  obtain ⟨h1, h⟩ := chk_at h
  refine azWM_HiddenEdgesModel_manyCuts hc hP h1 dX9_cuts_84 ?_
  obtain ⟨h2, h⟩ := chk_at h
  obtain ⟨h3, h⟩ := chk_at h
  refine z_icmp_ge (tgt := 121) hx hb h2 h3 dX9_cuts_85 (by decide) (fun hq => ?_) (fun hq => ?_)
  · replace h := if_yes hq h
    refine lv_aload_n hx hb dX9_cuts_121 rfl (lv_at hl 0 rfl) ?_
    refine gfWM_HiddenEdgesModel_manyCuts hc hP q_112 dX9_cuts_122 ?_
    refine lv_iload_n hx hb dX9_cuts_125 rfl (lv_at hl 1 rfl) ?_
    refine azWM_HiddenEdgesModel_manyCuts hc hP h1 dX9_cuts_126 ?_
    refine z_topi (fun x4 ex4 => ?_)
    replace h := olet_at ex4 h
    refine lv_istore (lv' := [(14, .int (Int32.ofInt x4)), (0, .ref (a 0)), (1, .int (Int32.ofInt v1)), (8, .long (Int64.ofInt v8)), (10, .long (Int64.ofInt v10)), (12, .int (Int32.ofInt v12)), (13, .int (Int32.ofInt v13))]) hx hb dX9_cuts_127 hl (by decide) rfl (fun ls hl => ?_)
    exact t_X9_cuts_p129 hc hr FU S v1 v8 v10 v12 v13 x4 h H locs ls hP hS (lv_sub hl [1, 2, 3, 4, 5, 6, 0] rfl)
  · replace h := if_no hq h
    refine lv_aload_n hx hb dX9_cuts_88 rfl (lv_at hl 0 rfl) ?_
    refine gfWM_HiddenEdgesModel_cutUp hc hP q_113 dX9_cuts_89 ?_
    refine lv_iload hx hb dX9_cuts_92 (lv_at hl 4 rfl) ?_
    refine lv_iload hx hb dX9_cuts_94 (lv_at hl 5 rfl) ?_
    refine z_iadd hx hb dX9_cuts_96 ?_
    obtain ⟨h5, h⟩ := chk_at h
    refine azWM_HiddenEdgesModel_cutUp hc hP h5 dX9_cuts_97 ?_
    refine lv_lload hx hb dX9_cuts_98 (lv_at hl 2 rfl) ?_
    refine W.lcmp hx hb dX9_cuts_100 ?_
    obtain ⟨h6, h⟩ := chk_at h
    obtain ⟨h7, h⟩ := chk_at h
    refine zc_if_ne (tgt := 121) hx hb h6 h7 dX9_cuts_101 (by decide) (fun hq => ?_) (fun hq => ?_)
    · replace h := if_no hq h
      refine lv_aload_n hx hb dX9_cuts_121 rfl (lv_at hl 0 rfl) ?_
      refine gfWM_HiddenEdgesModel_manyCuts hc hP q_112 dX9_cuts_122 ?_
      refine lv_iload_n hx hb dX9_cuts_125 rfl (lv_at hl 1 rfl) ?_
      refine azWM_HiddenEdgesModel_manyCuts hc hP h1 dX9_cuts_126 ?_
      refine z_topi (fun x8 ex8 => ?_)
      replace h := olet_at ex8 h
      refine lv_istore (lv' := [(14, .int (Int32.ofInt x8)), (0, .ref (a 0)), (1, .int (Int32.ofInt v1)), (8, .long (Int64.ofInt v8)), (10, .long (Int64.ofInt v10)), (12, .int (Int32.ofInt v12)), (13, .int (Int32.ofInt v13))]) hx hb dX9_cuts_127 hl (by decide) rfl (fun ls hl => ?_)
      exact t_X9_cuts_p129 hc hr FU S v1 v8 v10 v12 v13 x8 h H locs ls hP hS (lv_sub hl [1, 2, 3, 4, 5, 6, 0] rfl)
    · replace h := if_yes hq h
      refine lv_aload_n hx hb dX9_cuts_104 rfl (lv_at hl 0 rfl) ?_
      refine gfWM_HiddenEdgesModel_cutDown hc hP q_114 dX9_cuts_105 ?_
      refine lv_iload hx hb dX9_cuts_108 (lv_at hl 4 rfl) ?_
      refine lv_iload hx hb dX9_cuts_110 (lv_at hl 5 rfl) ?_
      refine z_iadd hx hb dX9_cuts_112 ?_
      refine azWM_HiddenEdgesModel_cutDown hc hP h5 dX9_cuts_113 ?_
      refine lv_lload hx hb dX9_cuts_114 (lv_at hl 3 rfl) ?_
      refine W.lcmp hx hb dX9_cuts_116 ?_
      obtain ⟨h9, h⟩ := chk_at h
      obtain ⟨h10, h⟩ := chk_at h
      refine zc_if_ne (tgt := 121) hx hb h9 h10 dX9_cuts_117 (by decide) (fun hq => ?_) (fun hq => ?_)
      · replace h := if_no hq h
        refine lv_aload_n hx hb dX9_cuts_121 rfl (lv_at hl 0 rfl) ?_
        refine gfWM_HiddenEdgesModel_manyCuts hc hP q_112 dX9_cuts_122 ?_
        refine lv_iload_n hx hb dX9_cuts_125 rfl (lv_at hl 1 rfl) ?_
        refine azWM_HiddenEdgesModel_manyCuts hc hP h1 dX9_cuts_126 ?_
        refine z_topi (fun x11 ex11 => ?_)
        replace h := olet_at ex11 h
        refine lv_istore (lv' := [(14, .int (Int32.ofInt x11)), (0, .ref (a 0)), (1, .int (Int32.ofInt v1)), (8, .long (Int64.ofInt v8)), (10, .long (Int64.ofInt v10)), (12, .int (Int32.ofInt v12)), (13, .int (Int32.ofInt v13))]) hx hb dX9_cuts_127 hl (by decide) rfl (fun ls hl => ?_)
        exact t_X9_cuts_p129 hc hr FU S v1 v8 v10 v12 v13 x11 h H locs ls hP hS (lv_sub hl [1, 2, 3, 4, 5, 6, 0] rfl)
      · replace h := if_yes hq h
        obtain rfl := Option.some.inj h
        exact hr _ _ _ _ dX9_cuts_120 hP hS
set_option maxHeartbeats 4000000 in
set_option maxRecDepth 100000 in
theorem t_X9_cuts_p30 {z : SZ} (hc : Cx p R s m args c D (tysWM g) A (WM a g) cX9_cuts 15 RX9 1 29) (hr : Rtv p l e R s m args below meth c Q D A (WM a g) cX9_cuts (em z)) : ∀ (fu : Nat) (S : SZ) (v1 : Int) (v8 : Int) (v10 : Int) (v12 : Int) (v13 : Int), f_X9_cuts_p30 fu S v1 v8 v10 v12 v13 = some z → Go p l e R s m args below meth c Q D A (WM a g) 15 (em S) 30 [(0, .ref (a 0)), (1, .int (Int32.ofInt v1)), (8, .long (Int64.ofInt v8)), (10, .long (Int64.ofInt v10)), (12, .int (Int32.ofInt v12)), (13, .int (Int32.ofInt v13))] [] := by
  obtain ⟨⟨hx, hb, hml, hown, hts⟩, -, -, -, hnf, hno⟩ := id hc
  intro fu
  induction fu with
  | zero =>
    intro S v1 v8 v10 v12 v13 h
    rw [f_X9_cuts_p30] at h
    cases h
  | succ fu ih =>
    intro S v1 v8 v10 v12 v13 h H locs ls hP hS hl
    rw [f_X9_cuts_p30] at h
    refine lv_iload hx hb dX9_cuts_30 (lv_at hl 5 rfl) ?_
    refine lv_aload_n hx hb dX9_cuts_32 rfl (lv_at hl 0 rfl) ?_
    refine gfWM_HiddenEdgesModel_manyCuts hc hP q_112 dX9_cuts_33 ?_
    refine lv_iload_n hx hb dX9_cuts_36 rfl (lv_at hl 1 rfl) ?_
    obtain ⟨h1, h⟩ := chk_at h
    refine azWM_HiddenEdgesModel_manyCuts hc hP h1 dX9_cuts_37 ?_
    obtain ⟨h2, h⟩ := chk_at h
    obtain ⟨h3, h⟩ := chk_at h
    refine z_icmp_ge (tgt := 77) hx hb h2 h3 dX9_cuts_38 (by decide) (fun hq => ?_) (fun hq => ?_)
    · replace h := if_yes hq h
      exact t_X9_cuts_p77 hc hr S v1 v8 v10 v12 v13 h H locs ls hP hS (lv_sub hl [0, 1, 2, 3, 4, 5] rfl)
    · replace h := if_no hq h
      refine lv_aload_n hx hb dX9_cuts_41 rfl (lv_at hl 0 rfl) ?_
      refine gfWM_HiddenEdgesModel_cutUp hc hP q_113 dX9_cuts_42 ?_
      refine lv_iload hx hb dX9_cuts_45 (lv_at hl 4 rfl) ?_
      refine lv_iload hx hb dX9_cuts_47 (lv_at hl 5 rfl) ?_
      refine z_iadd hx hb dX9_cuts_49 ?_
      obtain ⟨h4, h⟩ := chk_at h
      refine azWM_HiddenEdgesModel_cutUp hc hP h4 dX9_cuts_50 ?_
      refine lv_lload hx hb dX9_cuts_51 (lv_at hl 3 rfl) ?_
      refine z_lmul hx hb dX9_cuts_53 ?_
      refine lv_lload hx hb dX9_cuts_54 (lv_at hl 2 rfl) ?_
      refine lv_aload_n hx hb dX9_cuts_56 rfl (lv_at hl 0 rfl) ?_
      refine gfWM_HiddenEdgesModel_cutDown hc hP q_114 dX9_cuts_57 ?_
      refine lv_iload hx hb dX9_cuts_60 (lv_at hl 4 rfl) ?_
      refine lv_iload hx hb dX9_cuts_62 (lv_at hl 5 rfl) ?_
      refine z_iadd hx hb dX9_cuts_64 ?_
      refine azWM_HiddenEdgesModel_cutDown hc hP h4 dX9_cuts_65 ?_
      refine z_lmul hx hb dX9_cuts_66 ?_
      refine W.lcmp hx hb dX9_cuts_67 ?_
      obtain ⟨h5, h⟩ := chk_at h
      obtain ⟨h6, h⟩ := chk_at h
      refine zc_if_ge (tgt := 77) hx hb h5 h6 dX9_cuts_68 (by decide) (fun hq => ?_) (fun hq => ?_)
      · replace h := if_yes hq h
        exact t_X9_cuts_p77 hc hr S v1 v8 v10 v12 v13 h H locs ls hP hS (lv_sub hl [0, 1, 2, 3, 4, 5] rfl)
      · replace h := if_no hq h
        obtain ⟨x7, ex7⟩ : ∃ y : Int, y = v13 + (1 : Int) := ⟨_, rfl⟩
        replace h := olet_at ex7 h
        refine lv_iinc (v := Int32.ofInt x7) (lv' := [(13, .int (Int32.ofInt x7)), (0, .ref (a 0)), (1, .int (Int32.ofInt v1)), (8, .long (Int64.ofInt v8)), (10, .long (Int64.ofInt v10)), (12, .int (Int32.ofInt v12))]) hx hb dX9_cuts_71 hl (k := 5) rfl (by rw [ex7, Int32.ofInt_add]) (by decide) rfl (fun ls hl => ?_)
        refine lv_goto (tgt := 30) hx hb dX9_cuts_74 (by decide) ?_
        exact ih S v1 v8 v10 v12 x7 h H locs ls hP hS (lv_sub hl [1, 2, 3, 4, 5, 0] rfl)
set_option maxHeartbeats 4000000 in
set_option maxRecDepth 100000 in
theorem t_X9_cuts {z : SZ} (hc : Cx p R s m args c D (tysWM g) A (WM a g) cX9_cuts 15 RX9 1 29) (hr : Rtv p l e R s m args below meth c Q D A (WM a g) cX9_cuts (em z)) : ∀ (S : SZ) (v1 : Int) (v2 : Int) (v4 : Int), f_X9_cuts S v1 v2 v4 = some z → Go p l e R s m args below meth c Q D A (WM a g) 15 (em S) 0 [(0, .ref (a 0)), (1, .int (Int32.ofInt v1)), (2, .long (Int64.ofInt v2)), (4, .long (Int64.ofInt v4))] [] := by
  obtain ⟨⟨hx, hb, hml, hown, hts⟩, -, -, -, hnf, hno⟩ := id hc
  intro S v1 v2 v4 h H locs ls hP hS hl
  rw [f_X9_cuts] at h
  replace hl : lv_has ls 15 [(0, .ref (a 0)), (1, .int (Int32.ofInt v1)), (2, .long (Int64.ofInt v2)), (4, .long (Int64.ofInt v4))] := hl
  refine lv_lload hx hb dX9_cuts_0 (lv_at hl 3 rfl) ?_
  refine lv_lload_n hx hb dX9_cuts_2 rfl (lv_at hl 2 rfl) ?_
  obtain ⟨S1, x3, hk2, h⟩ := ob2_at h
  refine cl_Sl (As := [.long (Int64.ofInt v4), .long (Int64.ofInt v2)]) (rest := []) hc k_X9_common q_579 (c_X9_common hk2) hP hS rfl hl (Nat.le_of_ble_eq_true rfl) dX9_cuts_3 (Nat.le_of_ble_eq_true rfl) (Nat.le_of_ble_eq_true rfl) rfl (fun H locs hP hS => ?_)
  refine lv_lstore (lv' := [(6, .long (Int64.ofInt x3)), (0, .ref (a 0)), (1, .int (Int32.ofInt v1)), (2, .long (Int64.ofInt v2)), (4, .long (Int64.ofInt v4))]) hx hb dX9_cuts_6 hl (by decide) rfl (fun ls hl => ?_)
  refine lv_lload_n hx hb dX9_cuts_8 rfl (lv_at hl 3 rfl) ?_
  refine lv_lload hx hb dX9_cuts_9 (lv_at hl 0 rfl) ?_
  obtain ⟨h4, h⟩ := chk_at h
  obtain ⟨h5, h⟩ := chk_at h
  obtain ⟨h6, h⟩ := chk_at h
  refine z_ldiv hx hb h4 h5 h6 dX9_cuts_11 ?_
  refine z_topl (fun x7 ex7 => ?_)
  replace h := olet_at ex7 h
  refine lv_lstore (lv' := [(8, .long (Int64.ofInt x7)), (6, .long (Int64.ofInt x3)), (0, .ref (a 0)), (1, .int (Int32.ofInt v1)), (2, .long (Int64.ofInt v2)), (4, .long (Int64.ofInt v4))]) hx hb dX9_cuts_12 hl (by decide) rfl (fun ls hl => ?_)
  refine lv_lload hx hb dX9_cuts_14 (lv_at hl 5 rfl) ?_
  refine lv_lload hx hb dX9_cuts_16 (lv_at hl 1 rfl) ?_
  obtain ⟨h8, h⟩ := chk_at h
  refine z_ldiv hx hb h8 h5 h6 dX9_cuts_18 ?_
  refine z_topl (fun x9 ex9 => ?_)
  replace h := olet_at ex9 h
  refine lv_lstore (lv' := [(10, .long (Int64.ofInt x9)), (8, .long (Int64.ofInt x7)), (6, .long (Int64.ofInt x3)), (0, .ref (a 0)), (1, .int (Int32.ofInt v1)), (2, .long (Int64.ofInt v2)), (4, .long (Int64.ofInt v4))]) hx hb dX9_cuts_19 hl (by decide) rfl (fun ls hl => ?_)
  refine lv_bipush (v := Int32.ofInt (50 : Int)) hx hb dX9_cuts_21 (by decide) ?_
  refine lv_iload_n hx hb dX9_cuts_23 rfl (lv_at hl 4 rfl) ?_
  refine z_imul hx hb dX9_cuts_24 ?_
  refine z_topi (fun x10 ex10 => ?_)
  replace h := olet_at ex10 h
  refine lv_istore (lv' := [(12, .int (Int32.ofInt x10)), (10, .long (Int64.ofInt x9)), (8, .long (Int64.ofInt x7)), (6, .long (Int64.ofInt x3)), (0, .ref (a 0)), (1, .int (Int32.ofInt v1)), (2, .long (Int64.ofInt v2)), (4, .long (Int64.ofInt v4))]) hx hb dX9_cuts_25 hl (by decide) rfl (fun ls hl => ?_)
  refine lv_iconst (v := Int32.ofInt (0 : Int)) hx hb dX9_cuts_27 (by decide) ?_
  refine lv_istore (lv' := [(13, .int (Int32.ofInt (0 : Int))), (12, .int (Int32.ofInt x10)), (10, .long (Int64.ofInt x9)), (8, .long (Int64.ofInt x7)), (6, .long (Int64.ofInt x3)), (0, .ref (a 0)), (1, .int (Int32.ofInt v1)), (2, .long (Int64.ofInt v2)), (4, .long (Int64.ofInt v4))]) hx hb dX9_cuts_28 hl (by decide) rfl (fun ls hl => ?_)
  exact t_X9_cuts_p30 hc hr FU S1 v1 x7 x9 x10 (0 : Int) h H locs ls hP hS (lv_sub hl [5, 6, 3, 2, 1, 0] rfl)
abbrev rm_X9_cuts : Room := { frames := 1, cells := 0, slots := 0, locals := 29 }
theorem c_X9_cuts {l : Launch} {D : va_G} {a : Nat → Nat} {g : Nat → ClassId} {S : SZ} {v1 : Int} {v2 : Int} {v4 : Int} {z : SZ} (h : f_X9_cuts S v1 v2 v4 = some z) : MetV l D (tysWM g) (WM a g) E0 yX9_cuts cX9_cuts 15 none rm_X9_cuts [.ref (a 0), .int (Int32.ofInt v1), .long (Int64.ofInt v2), .long (Int64.ofInt v4)] (em S) (em z) := mk_v (WM_same a g) (by decide) (em z) (Nat.le_of_ble_eq_true rfl) (fun p e s m args below meth c A Q hc hE hr => t_X9_cuts (z := z) hc hr S v1 v2 v4 h)
theorem k_X9_cuts : CalV RX9 yX9_cuts cX9_cuts 15 none rm_X9_cuts 3 := ⟨q_576, q_577, q_5, q_578, by decide +kernel, rfl, rfl⟩
end W
