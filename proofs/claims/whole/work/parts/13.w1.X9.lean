section W
variable {p : Program} {l : Launch} {e : Env} {R : Room} {s : State} {m : MethodId} {args : Array Value} {below : List Frame} {meth : Method} {c : Code} {Q : State → Prop} {D : va_G} {A : Nat → Prop} {a : Nat → Nat} {g : Nat → ClassId}
set_option maxHeartbeats 4000000 in
set_option maxRecDepth 100000 in
theorem t_X9_block_p256 {z : St × Int32} (hc : Cx p R s m args c D (tysWM g) A (WM a g) cX9_block 9 RX9 3 70) (hr : Rti p l e R s m args below meth c Q D A (WM a g) cX9_block z) : ∀ (fu : Nat) (S : St) (v7 : Int32) (v8 : Int32), f_X9_block_p256 fu S v7 v8 = some z → Go p l e R s m args below meth c Q D A (WM a g) 9 S 256 [(0, .ref (a 0)), (7, .int v7), (8, .int v8)] [] := by
  obtain ⟨⟨hx, hb, hml, hown, hts⟩, -, -, -, hnf, hno⟩ := id hc
  intro fu
  induction fu with
  | zero =>
    intro S v7 v8 h
    rw [f_X9_block_p256] at h
    cases h
  | succ fu ih =>
    intro S v7 v8 h H locs ls hP hS hl
    rw [f_X9_block_p256] at h
    refine lv_iload hx hb dX9_block_256 (lv_at hl 2 rfl) ?_
    refine lv_bipush (v := 12) hx hb dX9_block_258 (by decide) ?_
    refine lv_icmp_ge (tgt := 319) hx hb dX9_block_260 (by decide) (fun hq => ?_) (fun hq => ?_)
    · replace h := if_yes hq h
      refine lv_iload hx hb dX9_block_319 (lv_at hl 1 rfl) ?_
      obtain rfl := Option.some.inj h
      exact hr _ _ _ _ dX9_block_321 hP hS
    · replace h := if_no hq h
      refine lv_aload_n hx hb dX9_block_263 rfl (lv_at hl 0 rfl) ?_
      refine lv_aload_n hx hb dX9_block_264 rfl (lv_at hl 0 rfl) ?_
      refine gfWM_HiddenEdgesModel_blockPoint hc hP q_107 dX9_block_265 ?_
      refine lv_aload_n hx hb dX9_block_268 rfl (lv_at hl 0 rfl) ?_
      refine gfWM_HiddenEdgesModel_blockCorner hc hP q_106 dX9_block_269 ?_
      refine lv_iconst (v := 3) hx hb dX9_block_272 (by decide) ?_
      refine lv_iload hx hb dX9_block_273 (lv_at hl 2 rfl) ?_
      refine lv_imul hx hb dX9_block_275 ?_
      obtain ⟨h1, h⟩ := chk_at h
      refine alWM_HiddenEdgesModel_blockCorner hc hP h1 dX9_block_276 ?_
      obtain ⟨h2, h⟩ := chk_at h
      refine alWM_HiddenEdgesModel_blockPoint hc hP h2 dX9_block_277 ?_
      refine lv_aload_n hx hb dX9_block_278 rfl (lv_at hl 0 rfl) ?_
      refine gfWM_HiddenEdgesModel_blockPoint hc hP q_107 dX9_block_279 ?_
      refine lv_aload_n hx hb dX9_block_282 rfl (lv_at hl 0 rfl) ?_
      refine gfWM_HiddenEdgesModel_blockCorner hc hP q_106 dX9_block_283 ?_
      refine lv_iconst (v := 3) hx hb dX9_block_286 (by decide) ?_
      refine lv_iload hx hb dX9_block_287 (lv_at hl 2 rfl) ?_
      refine lv_imul hx hb dX9_block_289 ?_
      refine lv_iconst (v := 1) hx hb dX9_block_290 (by decide) ?_
      refine lv_iadd hx hb dX9_block_291 ?_
      obtain ⟨h3, h⟩ := chk_at h
      refine alWM_HiddenEdgesModel_blockCorner hc hP h3 dX9_block_292 ?_
      obtain ⟨h4, h⟩ := chk_at h
      refine alWM_HiddenEdgesModel_blockPoint hc hP h4 dX9_block_293 ?_
      refine lv_aload_n hx hb dX9_block_294 rfl (lv_at hl 0 rfl) ?_
      refine gfWM_HiddenEdgesModel_blockPoint hc hP q_107 dX9_block_295 ?_
      refine lv_aload_n hx hb dX9_block_298 rfl (lv_at hl 0 rfl) ?_
      refine gfWM_HiddenEdgesModel_blockCorner hc hP q_106 dX9_block_299 ?_
      refine lv_iconst (v := 3) hx hb dX9_block_302 (by decide) ?_
      refine lv_iload hx hb dX9_block_303 (lv_at hl 2 rfl) ?_
      refine lv_imul hx hb dX9_block_305 ?_
      refine lv_iconst (v := 2) hx hb dX9_block_306 (by decide) ?_
      refine lv_iadd hx hb dX9_block_307 ?_
      obtain ⟨h5, h⟩ := chk_at h
      refine alWM_HiddenEdgesModel_blockCorner hc hP h5 dX9_block_308 ?_
      obtain ⟨h6, h⟩ := chk_at h
      refine alWM_HiddenEdgesModel_blockPoint hc hP h6 dX9_block_309 ?_
      obtain ⟨S7, hk8, h⟩ := ob1_at h
      refine cl_Vv (As := [.int (ga S 7 ((ga S 6 (((3 : Int32) * v8)).toNatClampNeg)).toNatClampNeg), .int (ga S 7 ((ga S 6 ((((3 : Int32) * v8) + (1 : Int32))).toNatClampNeg)).toNatClampNeg), .int (ga S 7 ((ga S 6 ((((3 : Int32) * v8) + (2 : Int32))).toNatClampNeg)).toNatClampNeg)]) (rest := []) hc k_X9_faceComes q_224 (c_X9_faceComes hk8) hP hS (WM_0 a g S) rfl rfl rfl hl (Nat.le_of_ble_eq_true rfl) dX9_block_310 (Nat.le_of_ble_eq_true rfl) (Nat.le_of_ble_eq_true rfl) rfl (fun H locs hP hS => ?_)
      obtain ⟨x9, ex9⟩ : ∃ y : Int32, y = v8 + (1 : Int32) := ⟨_, rfl⟩
      replace h := olet_at ex9 h
      refine lv_iinc (v := x9) (lv' := [(8, .int x9), (0, .ref (a 0)), (7, .int v7)]) hx hb dX9_block_313 hl (k := 2) rfl (by rw [ex9]; rfl) (by decide) rfl (fun ls hl => ?_)
      refine lv_goto (tgt := 256) hx hb dX9_block_316 (by decide) ?_
      exact ih S7 v7 x9 h H locs ls hP hS (lv_sub hl [1, 2, 0] rfl)
set_option maxHeartbeats 4000000 in
set_option maxRecDepth 100000 in
theorem t_X9_block_p184 {z : St × Int32} (hc : Cx p R s m args c D (tysWM g) A (WM a g) cX9_block 9 RX9 3 70) (hr : Rti p l e R s m args below meth c Q D A (WM a g) cX9_block z) : ∀ (fu : Nat) (S : St) (v1 : Int32) (v2 : Int32) (v3 : Int32) (v4 : Int32) (v5 : Int32) (v6 : Int32) (v7 : Int32) (v8 : Int32), f_X9_block_p184 fu S v1 v2 v3 v4 v5 v6 v7 v8 = some z → Go p l e R s m args below meth c Q D A (WM a g) 9 S 184 [(0, .ref (a 0)), (1, .int v1), (2, .int v2), (3, .int v3), (4, .int v4), (5, .int v5), (6, .int v6), (7, .int v7), (8, .int v8)] [] := by
  obtain ⟨⟨hx, hb, hml, hown, hts⟩, -, -, -, hnf, hno⟩ := id hc
  intro fu
  induction fu with
  | zero =>
    intro S v1 v2 v3 v4 v5 v6 v7 v8 h
    rw [f_X9_block_p184] at h
    cases h
  | succ fu ih =>
    intro S v1 v2 v3 v4 v5 v6 v7 v8 h H locs ls hP hS hl
    rw [f_X9_block_p184] at h
    refine lv_iload hx hb dX9_block_184 (lv_at hl 8 rfl) ?_
    refine lv_bipush (v := 8) hx hb dX9_block_186 (by decide) ?_
    refine lv_icmp_ge (tgt := 253) hx hb dX9_block_188 (by decide) (fun hq => ?_) (fun hq => ?_)
    · replace h := if_yes hq h
      refine lv_iconst (v := 0) hx hb dX9_block_253 (by decide) ?_
      refine lv_istore (lv' := [(8, .int (0 : Int32)), (0, .ref (a 0)), (1, .int v1), (2, .int v2), (3, .int v3), (4, .int v4), (5, .int v5), (6, .int v6), (7, .int v7)]) hx hb dX9_block_254 hl (by decide) rfl (fun ls hl => ?_)
      exact t_X9_block_p256 hc hr FU S v7 (0 : Int32) h H locs ls hP hS (lv_sub hl [1, 8, 0] rfl)
    · replace h := if_no hq h
      refine lv_aload_n hx hb dX9_block_191 rfl (lv_at hl 0 rfl) ?_
      refine gfWM_HiddenEdgesModel_blockPoint hc hP q_107 dX9_block_192 ?_
      refine lv_iload hx hb dX9_block_195 (lv_at hl 8 rfl) ?_
      obtain ⟨h1, h⟩ := chk_at h
      refine alWM_HiddenEdgesModel_blockPoint hc hP h1 dX9_block_197 ?_
      refine lv_bipush (v := -9) hx hb dX9_block_198 (by decide) ?_
      refine lv_icmp_ne (tgt := 247) hx hb dX9_block_200 (by decide) (fun hq => ?_) (fun hq => ?_)
      · replace h := if_no hq h
        obtain ⟨x2, ex2⟩ : ∃ y : Int32, y = v8 + (1 : Int32) := ⟨_, rfl⟩
        replace h := olet_at ex2 h
        refine lv_iinc (v := x2) (lv' := [(8, .int x2), (0, .ref (a 0)), (1, .int v1), (2, .int v2), (3, .int v3), (4, .int v4), (5, .int v5), (6, .int v6), (7, .int v7)]) hx hb dX9_block_247 hl (k := 8) rfl (by rw [ex2]; rfl) (by decide) rfl (fun ls hl => ?_)
        refine lv_goto (tgt := 184) hx hb dX9_block_250 (by decide) ?_
        exact ih S v1 v2 v3 v4 v5 v6 v7 x2 h H locs ls hP hS (lv_sub hl [1, 2, 3, 4, 5, 6, 7, 8, 0] rfl)
      · replace h := if_yes hq h
        refine lv_aload_n hx hb dX9_block_203 rfl (lv_at hl 0 rfl) ?_
        refine gfWM_HiddenEdgesModel_blockPoint hc hP q_107 dX9_block_204 ?_
        refine lv_iload hx hb dX9_block_207 (lv_at hl 8 rfl) ?_
        refine lv_aload_n hx hb dX9_block_209 rfl (lv_at hl 0 rfl) ?_
        refine gfWM_HiddenEdgesModel_points hc hP q_154 dX9_block_210 ?_
        obtain ⟨h3, h⟩ := chk_at h
        refine asWM_HiddenEdgesModel_blockPoint hc hP hS h3 dX9_block_213 (fun H locs hP hS => ?_)
        obtain ⟨S4, eS4⟩ : ∃ z, z = sa S 7 (v8).toNatClampNeg (gi S 0) := ⟨_, rfl⟩
        replace h := olet_at eS4 h
        rw [← eS4] at hP
        refine lv_aload_n hx hb dX9_block_214 rfl (lv_at hl 0 rfl) ?_
        refine lv_iload_n hx hb dX9_block_215 rfl (lv_at hl 1 rfl) ?_
        refine lv_iload hx hb dX9_block_216 (lv_at hl 4 rfl) ?_
        refine lv_iload hx hb dX9_block_218 (lv_at hl 8 rfl) ?_
        refine lv_iconst (v := 1) hx hb dX9_block_220 (by decide) ?_
        refine lv_iand hx hb dX9_block_221 ?_
        refine lv_imul hx hb dX9_block_222 ?_
        refine lv_iadd hx hb dX9_block_223 ?_
        refine lv_iload_n hx hb dX9_block_224 rfl (lv_at hl 2 rfl) ?_
        refine lv_iload hx hb dX9_block_225 (lv_at hl 5 rfl) ?_
        refine lv_iload hx hb dX9_block_227 (lv_at hl 8 rfl) ?_
        refine lv_iconst (v := 1) hx hb dX9_block_229 (by decide) ?_
        refine lv_ishr hx hb dX9_block_230 ?_
        refine lv_iconst (v := 1) hx hb dX9_block_231 (by decide) ?_
        refine lv_iand hx hb dX9_block_232 ?_
        refine lv_imul hx hb dX9_block_233 ?_
        refine lv_iadd hx hb dX9_block_234 ?_
        refine lv_iload_n hx hb dX9_block_235 rfl (lv_at hl 3 rfl) ?_
        refine lv_iload hx hb dX9_block_236 (lv_at hl 6 rfl) ?_
        refine lv_iload hx hb dX9_block_238 (lv_at hl 8 rfl) ?_
        refine lv_iconst (v := 2) hx hb dX9_block_240 (by decide) ?_
        refine lv_ishr hx hb dX9_block_241 ?_
        refine lv_imul hx hb dX9_block_242 ?_
        refine lv_iadd hx hb dX9_block_243 ?_
        obtain ⟨S5, hk6, h⟩ := ob1_at h
        refine cl_Vv (As := [.int (v1 + (v4 * (v8 &&& (1 : Int32)))), .int (v2 + (v5 * ((v8 >>> ((1 : Int32) &&& 31)) &&& (1 : Int32)))), .int (v3 + (v6 * (v8 >>> ((2 : Int32) &&& 31))))]) (rest := []) hc k_X9_comes q_165 (c_X9_comes hk6) hP hS (WM_0 a g S4) rfl rfl rfl hl (Nat.le_of_ble_eq_true rfl) dX9_block_244 (Nat.le_of_ble_eq_true rfl) (Nat.le_of_ble_eq_true rfl) rfl (fun H locs hP hS => ?_)
        obtain ⟨x7, ex7⟩ : ∃ y : Int32, y = v8 + (1 : Int32) := ⟨_, rfl⟩
        replace h := olet_at ex7 h
        refine lv_iinc (v := x7) (lv' := [(8, .int x7), (0, .ref (a 0)), (1, .int v1), (2, .int v2), (3, .int v3), (4, .int v4), (5, .int v5), (6, .int v6), (7, .int v7)]) hx hb dX9_block_247 hl (k := 8) rfl (by rw [ex7]; rfl) (by decide) rfl (fun ls hl => ?_)
        refine lv_goto (tgt := 184) hx hb dX9_block_250 (by decide) ?_
        exact ih S5 v1 v2 v3 v4 v5 v6 v7 x7 h H locs ls hP hS (lv_sub hl [1, 2, 3, 4, 5, 6, 7, 8, 0] rfl)
set_option maxHeartbeats 4000000 in
set_option maxRecDepth 100000 in
theorem t_X9_block_p69 {z : St × Int32} (hc : Cx p R s m args c D (tysWM g) A (WM a g) cX9_block 9 RX9 3 70) (hr : Rti p l e R s m args below meth c Q D A (WM a g) cX9_block z) : ∀ (fu : Nat) (S : St) (v1 : Int32) (v2 : Int32) (v3 : Int32) (v4 : Int32) (v5 : Int32) (v6 : Int32) (v7 : Int32) (v8 : Int32), f_X9_block_p69 fu S v1 v2 v3 v4 v5 v6 v7 v8 = some z → Go p l e R s m args below meth c Q D A (WM a g) 9 S 69 [(0, .ref (a 0)), (1, .int v1), (2, .int v2), (3, .int v3), (4, .int v4), (5, .int v5), (6, .int v6), (7, .int v7), (8, .int v8)] [] := by
  obtain ⟨⟨hx, hb, hml, hown, hts⟩, -, -, -, hnf, hno⟩ := id hc
  intro fu
  induction fu with
  | zero =>
    intro S v1 v2 v3 v4 v5 v6 v7 v8 h
    rw [f_X9_block_p69] at h
    cases h
  | succ fu ih =>
    intro S v1 v2 v3 v4 v5 v6 v7 v8 h H locs ls hP hS hl
    rw [f_X9_block_p69] at h
    refine lv_iload hx hb dX9_block_69 (lv_at hl 8 rfl) ?_
    refine lv_bipush (v := 8) hx hb dX9_block_71 (by decide) ?_
    refine lv_icmp_ge (tgt := 144) hx hb dX9_block_73 (by decide) (fun hq => ?_) (fun hq => ?_)
    · replace h := if_yes hq h
      refine lv_aload_n hx hb dX9_block_144 rfl (lv_at hl 0 rfl) ?_
      obtain ⟨S1, x3, hk2, h⟩ := ob2_at h
      refine cl_Vi (As := []) (rest := []) hc k_X9_isBlockThere q_270 (c_X9_isBlockThere hk2) hP hS (WM_0 a g S) rfl rfl rfl hl (Nat.le_of_ble_eq_true rfl) dX9_block_145 (Nat.le_of_ble_eq_true rfl) (Nat.le_of_ble_eq_true rfl) rfl (fun H locs hP hS => ?_)
      refine lv_if_eq (tgt := 154) hx hb dX9_block_148 (by decide) (fun hq => ?_) (fun hq => ?_)
      · replace h := if_yes hq h
        refine lv_aload_n hx hb dX9_block_154 rfl (lv_at hl 0 rfl) ?_
        refine gfWM_HiddenEdgesModel_points hc hP q_154 dX9_block_155 ?_
        refine lv_iload hx hb dX9_block_158 (lv_at hl 7 rfl) ?_
        refine lv_iadd hx hb dX9_block_160 ?_
        refine lv_bipush (v := 16) hx hb dX9_block_161 (by decide) ?_
        refine lv_icmp_gt (tgt := 178) hx hb dX9_block_163 (by decide) (fun hq => ?_) (fun hq => ?_)
        · replace h := if_yes hq h
          refine lv_bipush (v := -4) hx hb dX9_block_178 (by decide) ?_
          obtain rfl := Option.some.inj h
          exact hr _ _ _ _ dX9_block_180 hP hS
        · replace h := if_no hq h
          refine lv_aload_n hx hb dX9_block_166 rfl (lv_at hl 0 rfl) ?_
          refine gfWM_HiddenEdgesModel_faces hc hP q_207 dX9_block_167 ?_
          refine lv_bipush (v := 12) hx hb dX9_block_170 (by decide) ?_
          refine lv_iadd hx hb dX9_block_172 ?_
          refine lv_bipush (v := 24) hx hb dX9_block_173 (by decide) ?_
          refine lv_icmp_le (tgt := 181) hx hb dX9_block_175 (by decide) (fun hq => ?_) (fun hq => ?_)
          · replace h := if_yes hq h
            refine lv_iconst (v := 0) hx hb dX9_block_181 (by decide) ?_
            refine lv_istore (lv' := [(8, .int (0 : Int32)), (0, .ref (a 0)), (1, .int v1), (2, .int v2), (3, .int v3), (4, .int v4), (5, .int v5), (6, .int v6), (7, .int v7)]) hx hb dX9_block_182 hl (by decide) rfl (fun ls hl => ?_)
            exact t_X9_block_p184 hc hr FU S1 v1 v2 v3 v4 v5 v6 v7 (0 : Int32) h H locs ls hP hS (lv_sub hl [1, 2, 3, 4, 5, 6, 7, 8, 0] rfl)
          · replace h := if_no hq h
            refine lv_bipush (v := -4) hx hb dX9_block_178 (by decide) ?_
            obtain rfl := Option.some.inj h
            exact hr _ _ _ _ dX9_block_180 hP hS
      · replace h := if_no hq h
        refine lv_bipush (v := -3) hx hb dX9_block_151 (by decide) ?_
        obtain rfl := Option.some.inj h
        exact hr _ _ _ _ dX9_block_153 hP hS
    · replace h := if_no hq h
      refine lv_aload_n hx hb dX9_block_76 rfl (lv_at hl 0 rfl) ?_
      refine gfWM_HiddenEdgesModel_blockPoint hc hP q_107 dX9_block_77 ?_
      refine lv_iload hx hb dX9_block_80 (lv_at hl 8 rfl) ?_
      refine lv_aload_n hx hb dX9_block_82 rfl (lv_at hl 0 rfl) ?_
      refine lv_iload_n hx hb dX9_block_83 rfl (lv_at hl 1 rfl) ?_
      refine lv_iload hx hb dX9_block_84 (lv_at hl 4 rfl) ?_
      refine lv_iload hx hb dX9_block_86 (lv_at hl 8 rfl) ?_
      refine lv_iconst (v := 1) hx hb dX9_block_88 (by decide) ?_
      refine lv_iand hx hb dX9_block_89 ?_
      refine lv_imul hx hb dX9_block_90 ?_
      refine lv_iadd hx hb dX9_block_91 ?_
      refine lv_iload_n hx hb dX9_block_92 rfl (lv_at hl 2 rfl) ?_
      refine lv_iload hx hb dX9_block_93 (lv_at hl 5 rfl) ?_
      refine lv_iload hx hb dX9_block_95 (lv_at hl 8 rfl) ?_
      refine lv_iconst (v := 1) hx hb dX9_block_97 (by decide) ?_
      refine lv_ishr hx hb dX9_block_98 ?_
      refine lv_iconst (v := 1) hx hb dX9_block_99 (by decide) ?_
      refine lv_iand hx hb dX9_block_100 ?_
      refine lv_imul hx hb dX9_block_101 ?_
      refine lv_iadd hx hb dX9_block_102 ?_
      refine lv_iload_n hx hb dX9_block_103 rfl (lv_at hl 3 rfl) ?_
      refine lv_iload hx hb dX9_block_104 (lv_at hl 6 rfl) ?_
      refine lv_iload hx hb dX9_block_106 (lv_at hl 8 rfl) ?_
      refine lv_iconst (v := 2) hx hb dX9_block_108 (by decide) ?_
      refine lv_ishr hx hb dX9_block_109 ?_
      refine lv_imul hx hb dX9_block_110 ?_
      refine lv_iadd hx hb dX9_block_111 ?_
      obtain ⟨S4, x6, hk5, h⟩ := ob2_at h
      refine cl_Vi (As := [.int (v1 + (v4 * (v8 &&& (1 : Int32)))), .int (v2 + (v5 * ((v8 >>> ((1 : Int32) &&& 31)) &&& (1 : Int32)))), .int (v3 + (v6 * (v8 >>> ((2 : Int32) &&& 31))))]) (rest := [.int v8, .ref (a 8)]) hc k_X9_pointAt q_161 (c_X9_pointAt hk5) hP hS (WM_0 a g S) rfl rfl rfl hl (Nat.le_of_ble_eq_true rfl) dX9_block_112 (Nat.le_of_ble_eq_true rfl) (Nat.le_of_ble_eq_true rfl) rfl (fun H locs hP hS => ?_)
      obtain ⟨h7, h⟩ := chk_at h
      refine asWM_HiddenEdgesModel_blockPoint hc hP hS h7 dX9_block_115 (fun H locs hP hS => ?_)
      obtain ⟨S8, eS8⟩ : ∃ z, z = sa S4 7 (v8).toNatClampNeg x6 := ⟨_, rfl⟩
      replace h := olet_at eS8 h
      rw [← eS8] at hP
      refine lv_iload hx hb dX9_block_116 (lv_at hl 7 rfl) ?_
      refine lv_aload_n hx hb dX9_block_118 rfl (lv_at hl 0 rfl) ?_
      refine gfWM_HiddenEdgesModel_blockPoint hc hP q_107 dX9_block_119 ?_
      refine lv_iload hx hb dX9_block_122 (lv_at hl 8 rfl) ?_
      obtain ⟨h9, h⟩ := chk_at h
      refine alWM_HiddenEdgesModel_blockPoint hc hP h9 dX9_block_124 ?_
      refine lv_bipush (v := -9) hx hb dX9_block_125 (by decide) ?_
      refine lv_icmp_ne (tgt := 134) hx hb dX9_block_127 (by decide) (fun hq => ?_) (fun hq => ?_)
      · replace h := if_no hq h
        refine lv_iconst (v := 0) hx hb dX9_block_134 (by decide) ?_
        refine lv_iadd hx hb dX9_block_135 ?_
        refine lv_topi (fun x10 ex10 => ?_)
        replace h := olet_at ex10 h
        refine lv_istore (lv' := [(7, .int x10), (0, .ref (a 0)), (1, .int v1), (2, .int v2), (3, .int v3), (4, .int v4), (5, .int v5), (6, .int v6), (8, .int v8)]) hx hb dX9_block_136 hl (by decide) rfl (fun ls hl => ?_)
        obtain ⟨x11, ex11⟩ : ∃ y : Int32, y = v8 + (1 : Int32) := ⟨_, rfl⟩
        replace h := olet_at ex11 h
        refine lv_iinc (v := x11) (lv' := [(8, .int x11), (7, .int x10), (0, .ref (a 0)), (1, .int v1), (2, .int v2), (3, .int v3), (4, .int v4), (5, .int v5), (6, .int v6)]) hx hb dX9_block_138 hl (k := 8) rfl (by rw [ex11]; rfl) (by decide) rfl (fun ls hl => ?_)
        refine lv_goto (tgt := 69) hx hb dX9_block_141 (by decide) ?_
        exact ih S8 v1 v2 v3 v4 v5 v6 x10 x11 h H locs ls hP hS (lv_sub hl [2, 3, 4, 5, 6, 7, 8, 1, 0] rfl)
      · replace h := if_yes hq h
        refine lv_iconst (v := 1) hx hb dX9_block_130 (by decide) ?_
        refine lv_goto (tgt := 135) hx hb dX9_block_131 (by decide) ?_
        refine lv_iadd hx hb dX9_block_135 ?_
        refine lv_topi (fun x12 ex12 => ?_)
        replace h := olet_at ex12 h
        refine lv_istore (lv' := [(7, .int x12), (0, .ref (a 0)), (1, .int v1), (2, .int v2), (3, .int v3), (4, .int v4), (5, .int v5), (6, .int v6), (8, .int v8)]) hx hb dX9_block_136 hl (by decide) rfl (fun ls hl => ?_)
        obtain ⟨x13, ex13⟩ : ∃ y : Int32, y = v8 + (1 : Int32) := ⟨_, rfl⟩
        replace h := olet_at ex13 h
        refine lv_iinc (v := x13) (lv' := [(8, .int x13), (7, .int x12), (0, .ref (a 0)), (1, .int v1), (2, .int v2), (3, .int v3), (4, .int v4), (5, .int v5), (6, .int v6)]) hx hb dX9_block_138 hl (k := 8) rfl (by rw [ex13]; rfl) (by decide) rfl (fun ls hl => ?_)
        refine lv_goto (tgt := 69) hx hb dX9_block_141 (by decide) ?_
        exact ih S8 v1 v2 v3 v4 v5 v6 x12 x13 h H locs ls hP hS (lv_sub hl [2, 3, 4, 5, 6, 7, 8, 1, 0] rfl)
set_option maxHeartbeats 4000000 in
set_option maxRecDepth 100000 in
theorem t_X9_block {z : St × Int32} (hc : Cx p R s m args c D (tysWM g) A (WM a g) cX9_block 9 RX9 3 70) (hr : Rti p l e R s m args below meth c Q D A (WM a g) cX9_block z) : ∀ (S : St) (v1 : Int32) (v2 : Int32) (v3 : Int32) (v4 : Int32) (v5 : Int32) (v6 : Int32), f_X9_block S v1 v2 v3 v4 v5 v6 = some z → Go p l e R s m args below meth c Q D A (WM a g) 9 S 0 [(0, .ref (a 0)), (1, .int v1), (2, .int v2), (3, .int v3), (4, .int v4), (5, .int v5), (6, .int v6)] [] := by
  obtain ⟨⟨hx, hb, hml, hown, hts⟩, -, -, -, hnf, hno⟩ := id hc
  intro S v1 v2 v3 v4 v5 v6 h H locs ls hP hS hl
  rw [f_X9_block] at h
  replace hl : lv_has ls 9 [(0, .ref (a 0)), (1, .int v1), (2, .int v2), (3, .int v3), (4, .int v4), (5, .int v5), (6, .int v6)] := hl
  refine lv_iload_n hx hb dX9_block_0 rfl (lv_at hl 1 rfl) ?_
  refine lv_iload_n hx hb dX9_block_1 rfl (lv_at hl 2 rfl) ?_
  refine lv_iload_n hx hb dX9_block_2 rfl (lv_at hl 3 rfl) ?_
  obtain ⟨S1, x3, hk2, h⟩ := ob2_at h
  refine cl_Si (As := [.int v1, .int v2, .int v3]) (rest := []) hc k_X9_isPlace q_155 (c_X9_isPlace hk2) hP hS rfl hl (Nat.le_of_ble_eq_true rfl) dX9_block_3 (Nat.le_of_ble_eq_true rfl) (Nat.le_of_ble_eq_true rfl) rfl (fun H locs hP hS => ?_)
  refine lv_if_eq (tgt := 60) hx hb dX9_block_6 (by decide) (fun hq => ?_) (fun hq => ?_)
  · replace h := if_yes hq h
    refine lv_bipush (v := -2) hx hb dX9_block_60 (by decide) ?_
    obtain rfl := Option.some.inj h
    exact hr _ _ _ _ dX9_block_62 hP hS
  · replace h := if_no hq h
    refine lv_iload hx hb dX9_block_9 (lv_at hl 4 rfl) ?_
    refine lv_iconst (v := 1) hx hb dX9_block_11 (by decide) ?_
    refine lv_bipush (v := 9) hx hb dX9_block_12 (by decide) ?_
    obtain ⟨S4, x6, hk5, h⟩ := ob2_at h
    refine cl_Si (As := [.int v4, .int (1 : Int32), .int (9 : Int32)]) (rest := []) hc k_X9_within q_158 (c_X9_within hk5) hP hS rfl hl (Nat.le_of_ble_eq_true rfl) dX9_block_14 (Nat.le_of_ble_eq_true rfl) (Nat.le_of_ble_eq_true rfl) rfl (fun H locs hP hS => ?_)
    refine lv_if_eq (tgt := 60) hx hb dX9_block_17 (by decide) (fun hq => ?_) (fun hq => ?_)
    · replace h := if_yes hq h
      refine lv_bipush (v := -2) hx hb dX9_block_60 (by decide) ?_
      obtain rfl := Option.some.inj h
      exact hr _ _ _ _ dX9_block_62 hP hS
    · replace h := if_no hq h
      refine lv_iload hx hb dX9_block_20 (lv_at hl 5 rfl) ?_
      refine lv_iconst (v := 1) hx hb dX9_block_22 (by decide) ?_
      refine lv_bipush (v := 9) hx hb dX9_block_23 (by decide) ?_
      obtain ⟨S7, x9, hk8, h⟩ := ob2_at h
      refine cl_Si (As := [.int v5, .int (1 : Int32), .int (9 : Int32)]) (rest := []) hc k_X9_within q_158 (c_X9_within hk8) hP hS rfl hl (Nat.le_of_ble_eq_true rfl) dX9_block_25 (Nat.le_of_ble_eq_true rfl) (Nat.le_of_ble_eq_true rfl) rfl (fun H locs hP hS => ?_)
      refine lv_if_eq (tgt := 60) hx hb dX9_block_28 (by decide) (fun hq => ?_) (fun hq => ?_)
      · replace h := if_yes hq h
        refine lv_bipush (v := -2) hx hb dX9_block_60 (by decide) ?_
        obtain rfl := Option.some.inj h
        exact hr _ _ _ _ dX9_block_62 hP hS
      · replace h := if_no hq h
        refine lv_iload hx hb dX9_block_31 (lv_at hl 6 rfl) ?_
        refine lv_iconst (v := 1) hx hb dX9_block_33 (by decide) ?_
        refine lv_bipush (v := 9) hx hb dX9_block_34 (by decide) ?_
        obtain ⟨S10, x12, hk11, h⟩ := ob2_at h
        refine cl_Si (As := [.int v6, .int (1 : Int32), .int (9 : Int32)]) (rest := []) hc k_X9_within q_158 (c_X9_within hk11) hP hS rfl hl (Nat.le_of_ble_eq_true rfl) dX9_block_36 (Nat.le_of_ble_eq_true rfl) (Nat.le_of_ble_eq_true rfl) rfl (fun H locs hP hS => ?_)
        refine lv_if_eq (tgt := 60) hx hb dX9_block_39 (by decide) (fun hq => ?_) (fun hq => ?_)
        · replace h := if_yes hq h
          refine lv_bipush (v := -2) hx hb dX9_block_60 (by decide) ?_
          obtain rfl := Option.some.inj h
          exact hr _ _ _ _ dX9_block_62 hP hS
        · replace h := if_no hq h
          refine lv_iload_n hx hb dX9_block_42 rfl (lv_at hl 1 rfl) ?_
          refine lv_iload hx hb dX9_block_43 (lv_at hl 4 rfl) ?_
          refine lv_iadd hx hb dX9_block_45 ?_
          refine lv_iload_n hx hb dX9_block_46 rfl (lv_at hl 2 rfl) ?_
          refine lv_iload hx hb dX9_block_47 (lv_at hl 5 rfl) ?_
          refine lv_iadd hx hb dX9_block_49 ?_
          refine lv_iload_n hx hb dX9_block_50 rfl (lv_at hl 3 rfl) ?_
          refine lv_iload hx hb dX9_block_51 (lv_at hl 6 rfl) ?_
          refine lv_iadd hx hb dX9_block_53 ?_
          obtain ⟨S13, x15, hk14, h⟩ := ob2_at h
          refine cl_Si (As := [.int (v1 + v4), .int (v2 + v5), .int (v3 + v6)]) (rest := []) hc k_X9_isPlace q_155 (c_X9_isPlace hk14) hP hS rfl hl (Nat.le_of_ble_eq_true rfl) dX9_block_54 (Nat.le_of_ble_eq_true rfl) (Nat.le_of_ble_eq_true rfl) rfl (fun H locs hP hS => ?_)
          refine lv_if_ne (tgt := 63) hx hb dX9_block_57 (by decide) (fun hq => ?_) (fun hq => ?_)
          · replace h := if_no hq h
            refine lv_iconst (v := 0) hx hb dX9_block_63 (by decide) ?_
            refine lv_istore (lv' := [(7, .int (0 : Int32)), (0, .ref (a 0)), (1, .int v1), (2, .int v2), (3, .int v3), (4, .int v4), (5, .int v5), (6, .int v6)]) hx hb dX9_block_64 hl (by decide) rfl (fun ls hl => ?_)
            refine lv_iconst (v := 0) hx hb dX9_block_66 (by decide) ?_
            refine lv_istore (lv' := [(8, .int (0 : Int32)), (7, .int (0 : Int32)), (0, .ref (a 0)), (1, .int v1), (2, .int v2), (3, .int v3), (4, .int v4), (5, .int v5), (6, .int v6)]) hx hb dX9_block_67 hl (by decide) rfl (fun ls hl => ?_)
            exact t_X9_block_p69 hc hr FU S13 v1 v2 v3 v4 v5 v6 (0 : Int32) (0 : Int32) h H locs ls hP hS (lv_sub hl [2, 3, 4, 5, 6, 7, 8, 1, 0] rfl)
          · replace h := if_yes hq h
            refine lv_bipush (v := -2) hx hb dX9_block_60 (by decide) ?_
            obtain rfl := Option.some.inj h
            exact hr _ _ _ _ dX9_block_62 hP hS
abbrev rm_X9_block : Room := { frames := 3, cells := 0, slots := 0, locals := 70 }
theorem c_X9_block {l : Launch} {D : va_G} {a : Nat → Nat} {g : Nat → ClassId} {S : St} {v1 : Int32} {v2 : Int32} {v3 : Int32} {v4 : Int32} {v5 : Int32} {v6 : Int32} {z : St × Int32} (h : f_X9_block S v1 v2 v3 v4 v5 v6 = some z) : MetI l D (tysWM g) (WM a g) E0 yX9_block cX9_block 9 (some .int) rm_X9_block [.ref (a 0), .int v1, .int v2, .int v3, .int v4, .int v5, .int v6] S z := mk_i (WM_same a g) (by decide) z (Nat.le_of_ble_eq_true rfl) (fun p e s m args below meth c A Q hc hE hr => t_X9_block hc hr S v1 v2 v3 v4 v5 v6 h)
theorem k_X9_block : CalV RX9 yX9_block cX9_block 9 (some .int) rm_X9_block 6 := ⟨q_267, q_268, q_5, q_269, by decide +kernel, rfl, rfl⟩
set_option maxHeartbeats 4000000 in
set_option maxRecDepth 100000 in
theorem t_X9_cut {z : St × Int32} (hc : Cx p R s m args c D (tysWM g) A (WM a g) cX9_cut 1 RX9 0 0) (hr : Rti p l e R s m args below meth c Q D A (WM a g) cX9_cut z) : ∀ (S : St), f_X9_cut S = some z → Go p l e R s m args below meth c Q D A (WM a g) 1 S 0 [(0, .ref (a 0))] [] := by
  obtain ⟨⟨hx, hb, hml, hown, hts⟩, -, -, -, hnf, hno⟩ := id hc
  intro S h H locs ls hP hS hl
  rw [f_X9_cut] at h
  replace hl : lv_has ls 1 [(0, .ref (a 0))] := hl
  refine lv_aload_n hx hb dX9_cut_0 rfl (lv_at hl 0 rfl) ?_
  refine gfWM_HiddenEdgesModel_faces hc hP q_207 dX9_cut_1 ?_
  refine lv_if_ne (tgt := 10) hx hb dX9_cut_4 (by decide) (fun hq => ?_) (fun hq => ?_)
  · replace h := if_no hq h
    refine lv_aload_n hx hb dX9_cut_10 rfl (lv_at hl 0 rfl) ?_
    refine lv_dup hx hb dX9_cut_11 rfl ?_
    refine gfWM_HiddenEdgesModel_faces hc hP q_207 dX9_cut_12 ?_
    refine lv_iconst (v := 1) hx hb dX9_cut_15 (by decide) ?_
    refine lv_isub hx hb dX9_cut_16 ?_
    refine pfWM_HiddenEdgesModel_faces hc hP hS q_207 dX9_cut_17 (fun H locs hP hS => ?_)
    obtain ⟨S1, eS1⟩ : ∃ z, z = si S 1 ((gi S 1) - (1 : Int32)) := ⟨_, rfl⟩
    replace h := olet_at eS1 h
    rw [← eS1] at hP
    refine lv_aload_n hx hb dX9_cut_20 rfl (lv_at hl 0 rfl) ?_
    refine lv_iconst (v := 0) hx hb dX9_cut_21 (by decide) ?_
    refine pfWM_HiddenEdgesModel_isFound hc hP hS (Or.inl rfl) q_169 dX9_cut_22 (fun H locs hP hS => ?_)
    obtain ⟨S2, eS2⟩ : ∃ z, z = si S1 6 (0 : Int32) := ⟨_, rfl⟩
    replace h := olet_at eS2 h
    rw [← eS2] at hP
    refine lv_aload_n hx hb dX9_cut_25 rfl (lv_at hl 0 rfl) ?_
    refine gfWM_HiddenEdgesModel_faces hc hP q_207 dX9_cut_26 ?_
    obtain rfl := Option.some.inj h
    exact hr _ _ _ _ dX9_cut_29 hP hS
  · replace h := if_yes hq h
    refine lv_bipush (v := -3) hx hb dX9_cut_7 (by decide) ?_
    obtain rfl := Option.some.inj h
    exact hr _ _ _ _ dX9_cut_9 hP hS
abbrev rm_X9_cut : Room := { frames := 0, cells := 0, slots := 0, locals := 0 }
theorem c_X9_cut {l : Launch} {D : va_G} {a : Nat → Nat} {g : Nat → ClassId} {S : St} {z : St × Int32} (h : f_X9_cut S = some z) : MetI l D (tysWM g) (WM a g) E0 yX9_cut cX9_cut 1 (some .int) rm_X9_cut [.ref (a 0)] S z := mk_i (WM_same a g) (by decide) z (Nat.le_of_ble_eq_true rfl) (fun p e s m args below meth c A Q hc hE hr => t_X9_cut hc hr S h)
theorem k_X9_cut : CalV RX9 yX9_cut cX9_cut 1 (some .int) rm_X9_cut 0 := ⟨q_279, q_280, q_5, q_281, by decide +kernel, rfl, rfl⟩
set_option maxHeartbeats 4000000 in
set_option maxRecDepth 100000 in
theorem t_X9_clear {z : St × Int32} (hc : Cx p R s m args c D (tysWM g) A (WM a g) cX9_clear 2 RX9 0 0) (hr : Rti p l e R s m args below meth c Q D A (WM a g) cX9_clear z) : ∀ (S : St), f_X9_clear S = some z → Go p l e R s m args below meth c Q D A (WM a g) 2 S 0 [(0, .ref (a 0))] [] := by
  obtain ⟨⟨hx, hb, hml, hown, hts⟩, -, -, -, hnf, hno⟩ := id hc
  intro S h H locs ls hP hS hl
  rw [f_X9_clear] at h
  replace hl : lv_has ls 2 [(0, .ref (a 0))] := hl
  refine lv_aload_n hx hb dX9_clear_0 rfl (lv_at hl 0 rfl) ?_
  refine gfWM_HiddenEdgesModel_faces hc hP q_207 dX9_clear_1 ?_
  refine lv_topi (fun x1 ex1 => ?_)
  replace h := olet_at ex1 h
  refine lv_istore_n (lv' := [(1, .int x1), (0, .ref (a 0))]) hx hb dX9_clear_4 rfl hl (by decide) rfl (fun ls hl => ?_)
  refine lv_aload_n hx hb dX9_clear_5 rfl (lv_at hl 1 rfl) ?_
  refine lv_iconst (v := 0) hx hb dX9_clear_6 (by decide) ?_
  refine pfWM_HiddenEdgesModel_points hc hP hS q_154 dX9_clear_7 (fun H locs hP hS => ?_)
  obtain ⟨S2, eS2⟩ : ∃ z, z = si S 0 (0 : Int32) := ⟨_, rfl⟩
  replace h := olet_at eS2 h
  rw [← eS2] at hP
  refine lv_aload_n hx hb dX9_clear_10 rfl (lv_at hl 1 rfl) ?_
  refine lv_iconst (v := 0) hx hb dX9_clear_11 (by decide) ?_
  refine pfWM_HiddenEdgesModel_faces hc hP hS q_207 dX9_clear_12 (fun H locs hP hS => ?_)
  obtain ⟨S3, eS3⟩ : ∃ z, z = si S2 1 (0 : Int32) := ⟨_, rfl⟩
  replace h := olet_at eS3 h
  rw [← eS3] at hP
  refine lv_aload_n hx hb dX9_clear_15 rfl (lv_at hl 1 rfl) ?_
  refine lv_iconst (v := 0) hx hb dX9_clear_16 (by decide) ?_
  refine pfWM_HiddenEdgesModel_wires hc hP hS q_246 dX9_clear_17 (fun H locs hP hS => ?_)
  obtain ⟨S4, eS4⟩ : ∃ z, z = si S3 2 (0 : Int32) := ⟨_, rfl⟩
  replace h := olet_at eS4 h
  rw [← eS4] at hP
  refine lv_aload_n hx hb dX9_clear_20 rfl (lv_at hl 1 rfl) ?_
  refine lv_iconst (v := 0) hx hb dX9_clear_21 (by decide) ?_
  refine pfWM_HiddenEdgesModel_isFound hc hP hS (Or.inl rfl) q_169 dX9_clear_22 (fun H locs hP hS => ?_)
  obtain ⟨S5, eS5⟩ : ∃ z, z = si S4 6 (0 : Int32) := ⟨_, rfl⟩
  replace h := olet_at eS5 h
  rw [← eS5] at hP
  refine lv_iload_n hx hb dX9_clear_25 rfl (lv_at hl 0 rfl) ?_
  obtain rfl := Option.some.inj h
  exact hr _ _ _ _ dX9_clear_26 hP hS
abbrev rm_X9_clear : Room := { frames := 0, cells := 0, slots := 0, locals := 0 }
theorem c_X9_clear {l : Launch} {D : va_G} {a : Nat → Nat} {g : Nat → ClassId} {S : St} {z : St × Int32} (h : f_X9_clear S = some z) : MetI l D (tysWM g) (WM a g) E0 yX9_clear cX9_clear 2 (some .int) rm_X9_clear [.ref (a 0)] S z := mk_i (WM_same a g) (by decide) z (Nat.le_of_ble_eq_true rfl) (fun p e s m args below meth c A Q hc hE hr => t_X9_clear hc hr S h)
theorem k_X9_clear : CalV RX9 yX9_clear cX9_clear 2 (some .int) rm_X9_clear 0 := ⟨q_287, q_288, q_5, q_289, by decide +kernel, rfl, rfl⟩
set_option maxHeartbeats 4000000 in
set_option maxRecDepth 100000 in
theorem t_X9_view_p57 {z : St × Int32} (hc : Cx p R s m args c D (tysWM g) A (WM a g) cX9_view 5 RX9 1 22) (hr : Rti p l e R s m args below meth c Q D A (WM a g) cX9_view z) : ∀ (S : St) (v1 : Int32) (v2 : Int32) (v3 : Int32), f_X9_view_p57 S v1 v2 v3 = some z → Go p l e R s m args below meth c Q D A (WM a g) 5 S 57 [(0, .ref (a 0)), (1, .int v1), (2, .int v2), (3, .int v3)] [] := by
  obtain ⟨⟨hx, hb, hml, hown, hts⟩, -, -, -, hnf, hno⟩ := id hc
  intro S v1 v2 v3 h H locs ls hP hS hl
  rw [f_X9_view_p57] at h
  refine lv_aload_n hx hb dX9_view_57 rfl (lv_at hl 0 rfl) ?_
  refine lv_iload_n hx hb dX9_view_58 rfl (lv_at hl 1 rfl) ?_
  refine pfWM_HiddenEdgesModel_dx hc hP hS q_302 dX9_view_59 (fun H locs hP hS => ?_)
  obtain ⟨S1, eS1⟩ : ∃ z, z = si S 3 v1 := ⟨_, rfl⟩
  replace h := olet_at eS1 h
  rw [← eS1] at hP
  refine lv_aload_n hx hb dX9_view_62 rfl (lv_at hl 0 rfl) ?_
  refine lv_iload_n hx hb dX9_view_63 rfl (lv_at hl 2 rfl) ?_
  refine pfWM_HiddenEdgesModel_dy hc hP hS q_303 dX9_view_64 (fun H locs hP hS => ?_)
  obtain ⟨S2, eS2⟩ : ∃ z, z = si S1 4 v2 := ⟨_, rfl⟩
  replace h := olet_at eS2 h
  rw [← eS2] at hP
  refine lv_aload_n hx hb dX9_view_67 rfl (lv_at hl 0 rfl) ?_
  refine lv_iload_n hx hb dX9_view_68 rfl (lv_at hl 3 rfl) ?_
  refine pfWM_HiddenEdgesModel_dz hc hP hS q_105 dX9_view_69 (fun H locs hP hS => ?_)
  obtain ⟨S3, eS3⟩ : ∃ z, z = si S2 5 v3 := ⟨_, rfl⟩
  replace h := olet_at eS3 h
  rw [← eS3] at hP
  refine lv_aload_n hx hb dX9_view_72 rfl (lv_at hl 0 rfl) ?_
  refine lv_iconst (v := 0) hx hb dX9_view_73 (by decide) ?_
  refine pfWM_HiddenEdgesModel_isFound hc hP hS (Or.inl rfl) q_169 dX9_view_74 (fun H locs hP hS => ?_)
  obtain ⟨S4, eS4⟩ : ∃ z, z = si S3 6 (0 : Int32) := ⟨_, rfl⟩
  replace h := olet_at eS4 h
  rw [← eS4] at hP
  refine lv_iconst (v := 1) hx hb dX9_view_77 (by decide) ?_
  obtain rfl := Option.some.inj h
  exact hr _ _ _ _ dX9_view_78 hP hS
set_option maxHeartbeats 4000000 in
set_option maxRecDepth 100000 in
theorem t_X9_view_p35 {z : St × Int32} (hc : Cx p R s m args c D (tysWM g) A (WM a g) cX9_view 5 RX9 1 22) (hr : Rti p l e R s m args below meth c Q D A (WM a g) cX9_view z) : ∀ (S : St) (v1 : Int32) (v2 : Int32) (v3 : Int32) (s0 : Int32), f_X9_view_p35 S v1 v2 v3 s0 = some z → Go p l e R s m args below meth c Q D A (WM a g) 5 S 35 [(0, .ref (a 0)), (1, .int v1), (2, .int v2), (3, .int v3)] [.int s0] := by
  obtain ⟨⟨hx, hb, hml, hown, hts⟩, -, -, -, hnf, hno⟩ := id hc
  intro S v1 v2 v3 s0 h H locs ls hP hS hl
  rw [f_X9_view_p35] at h
  refine lv_istore (lv' := [(4, .int s0), (0, .ref (a 0)), (1, .int v1), (2, .int v2), (3, .int v3)]) hx hb dX9_view_35 hl (by decide) rfl (fun ls hl => ?_)
  refine lv_iload hx hb dX9_view_37 (lv_at hl 0 rfl) ?_
  refine lv_if_eq (tgt := 54) hx hb dX9_view_39 (by decide) (fun hq => ?_) (fun hq => ?_)
  · replace h := if_yes hq h
    refine lv_bipush (v := -2) hx hb dX9_view_54 (by decide) ?_
    obtain rfl := Option.some.inj h
    exact hr _ _ _ _ dX9_view_56 hP hS
  · replace h := if_no hq h
    refine lv_iload_n hx hb dX9_view_42 rfl (lv_at hl 2 rfl) ?_
    refine lv_if_ne (tgt := 57) hx hb dX9_view_43 (by decide) (fun hq => ?_) (fun hq => ?_)
    · replace h := if_no hq h
      exact t_X9_view_p57 hc hr S v1 v2 v3 h H locs ls hP hS (lv_sub hl [1, 2, 3, 4] rfl)
    · replace h := if_yes hq h
      refine lv_iload_n hx hb dX9_view_46 rfl (lv_at hl 3 rfl) ?_
      refine lv_if_ne (tgt := 57) hx hb dX9_view_47 (by decide) (fun hq => ?_) (fun hq => ?_)
      · replace h := if_no hq h
        exact t_X9_view_p57 hc hr S v1 v2 v3 h H locs ls hP hS (lv_sub hl [1, 2, 3, 4] rfl)
      · replace h := if_yes hq h
        refine lv_iload_n hx hb dX9_view_50 rfl (lv_at hl 4 rfl) ?_
        refine lv_if_ne (tgt := 57) hx hb dX9_view_51 (by decide) (fun hq => ?_) (fun hq => ?_)
        · replace h := if_no hq h
          exact t_X9_view_p57 hc hr S v1 v2 v3 h H locs ls hP hS (lv_sub hl [1, 2, 3, 4] rfl)
        · replace h := if_yes hq h
          refine lv_bipush (v := -2) hx hb dX9_view_54 (by decide) ?_
          obtain rfl := Option.some.inj h
          exact hr _ _ _ _ dX9_view_56 hP hS
set_option maxHeartbeats 4000000 in
set_option maxRecDepth 100000 in
theorem t_X9_view {z : St × Int32} (hc : Cx p R s m args c D (tysWM g) A (WM a g) cX9_view 5 RX9 1 22) (hr : Rti p l e R s m args below meth c Q D A (WM a g) cX9_view z) : ∀ (S : St) (v1 : Int32) (v2 : Int32) (v3 : Int32), f_X9_view S v1 v2 v3 = some z → Go p l e R s m args below meth c Q D A (WM a g) 5 S 0 [(0, .ref (a 0)), (1, .int v1), (2, .int v2), (3, .int v3)] [] := by
  obtain ⟨⟨hx, hb, hml, hown, hts⟩, -, -, -, hnf, hno⟩ := id hc
  intro S v1 v2 v3 h H locs ls hP hS hl
  rw [f_X9_view] at h
  replace hl : lv_has ls 5 [(0, .ref (a 0)), (1, .int v1), (2, .int v2), (3, .int v3)] := hl
  refine lv_iload_n hx hb dX9_view_0 rfl (lv_at hl 1 rfl) ?_
  refine lv_bipush (v := -3) hx hb dX9_view_1 (by decide) ?_
  refine lv_iconst (v := 3) hx hb dX9_view_3 (by decide) ?_
  obtain ⟨S1, x3, hk2, h⟩ := ob2_at h
  refine cl_Si (As := [.int v1, .int (-3 : Int32), .int (3 : Int32)]) (rest := []) hc k_X9_within q_158 (c_X9_within hk2) hP hS rfl hl (Nat.le_of_ble_eq_true rfl) dX9_view_4 (Nat.le_of_ble_eq_true rfl) (Nat.le_of_ble_eq_true rfl) rfl (fun H locs hP hS => ?_)
  refine lv_if_eq (tgt := 34) hx hb dX9_view_7 (by decide) (fun hq => ?_) (fun hq => ?_)
  · replace h := if_yes hq h
    refine lv_iconst (v := 0) hx hb dX9_view_34 (by decide) ?_
    exact t_X9_view_p35 hc hr S1 v1 v2 v3 (0 : Int32) h H locs ls hP hS (lv_sub hl [0, 1, 2, 3] rfl)
  · replace h := if_no hq h
    refine lv_iload_n hx hb dX9_view_10 rfl (lv_at hl 2 rfl) ?_
    refine lv_bipush (v := -3) hx hb dX9_view_11 (by decide) ?_
    refine lv_iconst (v := 3) hx hb dX9_view_13 (by decide) ?_
    obtain ⟨S4, x6, hk5, h⟩ := ob2_at h
    refine cl_Si (As := [.int v2, .int (-3 : Int32), .int (3 : Int32)]) (rest := []) hc k_X9_within q_158 (c_X9_within hk5) hP hS rfl hl (Nat.le_of_ble_eq_true rfl) dX9_view_14 (Nat.le_of_ble_eq_true rfl) (Nat.le_of_ble_eq_true rfl) rfl (fun H locs hP hS => ?_)
    refine lv_if_eq (tgt := 34) hx hb dX9_view_17 (by decide) (fun hq => ?_) (fun hq => ?_)
    · replace h := if_yes hq h
      refine lv_iconst (v := 0) hx hb dX9_view_34 (by decide) ?_
      exact t_X9_view_p35 hc hr S4 v1 v2 v3 (0 : Int32) h H locs ls hP hS (lv_sub hl [0, 1, 2, 3] rfl)
    · replace h := if_no hq h
      refine lv_iload_n hx hb dX9_view_20 rfl (lv_at hl 3 rfl) ?_
      refine lv_bipush (v := -3) hx hb dX9_view_21 (by decide) ?_
      refine lv_iconst (v := 3) hx hb dX9_view_23 (by decide) ?_
      obtain ⟨S7, x9, hk8, h⟩ := ob2_at h
      refine cl_Si (As := [.int v3, .int (-3 : Int32), .int (3 : Int32)]) (rest := []) hc k_X9_within q_158 (c_X9_within hk8) hP hS rfl hl (Nat.le_of_ble_eq_true rfl) dX9_view_24 (Nat.le_of_ble_eq_true rfl) (Nat.le_of_ble_eq_true rfl) rfl (fun H locs hP hS => ?_)
      refine lv_if_eq (tgt := 34) hx hb dX9_view_27 (by decide) (fun hq => ?_) (fun hq => ?_)
      · replace h := if_yes hq h
        refine lv_iconst (v := 0) hx hb dX9_view_34 (by decide) ?_
        exact t_X9_view_p35 hc hr S7 v1 v2 v3 (0 : Int32) h H locs ls hP hS (lv_sub hl [0, 1, 2, 3] rfl)
      · replace h := if_no hq h
        refine lv_iconst (v := 1) hx hb dX9_view_30 (by decide) ?_
        refine lv_goto (tgt := 35) hx hb dX9_view_31 (by decide) ?_
        exact t_X9_view_p35 hc hr S7 v1 v2 v3 (1 : Int32) h H locs ls hP hS (lv_sub hl [0, 1, 2, 3] rfl)
abbrev rm_X9_view : Room := { frames := 1, cells := 0, slots := 0, locals := 22 }
theorem c_X9_view {l : Launch} {D : va_G} {a : Nat → Nat} {g : Nat → ClassId} {S : St} {v1 : Int32} {v2 : Int32} {v3 : Int32} {z : St × Int32} (h : f_X9_view S v1 v2 v3 = some z) : MetI l D (tysWM g) (WM a g) E0 yX9_view cX9_view 5 (some .int) rm_X9_view [.ref (a 0), .int v1, .int v2, .int v3] S z := mk_i (WM_same a g) (by decide) z (Nat.le_of_ble_eq_true rfl) (fun p e s m args below meth c A Q hc hE hr => t_X9_view hc hr S v1 v2 v3 h)
theorem k_X9_view : CalV RX9 yX9_view cX9_view 5 (some .int) rm_X9_view 3 := ⟨q_299, q_300, q_5, q_301, by decide +kernel, rfl, rfl⟩
set_option maxHeartbeats 4000000 in
set_option maxRecDepth 100000 in
theorem t_X9_turn_p143 {z : St × Int32} (hc : Cx p R s m args c D (tysWM g) A (WM a g) cX9_turn 7 RX9 1 22) (hr : Rti p l e R s m args below meth c Q D A (WM a g) cX9_turn z) {k16 : St → Int32 → Int32 → Int32 → Option (St × Int32)} (K16 : ∀ (S : St) (v1 : Int32) (v2 : Int32) (v3 : Int32), k16 S v1 v2 v3 = some z → Go p l e R s m args below meth c Q D A (WM a g) 7 S 16 [(0, .ref (a 0)), (1, .int v1), (2, .int v2), (3, .int v3)] []) : ∀ (S : St) (v1 : Int32) (v2 : Int32) (v3 : Int32) (v4 : Int32) (v5 : Int32) (v6 : Int32) (s1 : Int32) (s2 : Int32), f_X9_turn_p143 k16 S v1 v2 v3 v4 v5 v6 s1 s2 = some z → Go p l e R s m args below meth c Q D A (WM a g) 7 S 143 [(0, .ref (a 0)), (1, .int v1), (2, .int v2), (3, .int v3), (4, .int v4), (5, .int v5), (6, .int v6)] [.int s2, .int s1, .ref (a 3)] := by
  obtain ⟨⟨hx, hb, hml, hown, hts⟩, -, -, -, hnf, hno⟩ := id hc
  intro S v1 v2 v3 v4 v5 v6 s1 s2 h H locs ls hP hS hl
  rw [f_X9_turn_p143] at h
  obtain ⟨h1, h⟩ := chk_at h
  refine asWM_HiddenEdgesModel_zOf hc hP hS h1 dX9_turn_143 (fun H locs hP hS => ?_)
  obtain ⟨S2, eS2⟩ : ∃ z, z = sa S 2 (s1).toNatClampNeg s2 := ⟨_, rfl⟩
  replace h := olet_at eS2 h
  rw [← eS2] at hP
  refine lv_iload_n hx hb dX9_turn_144 rfl (lv_at hl 2 rfl) ?_
  refine lv_iload hx hb dX9_turn_145 (lv_at hl 4 rfl) ?_
  refine lv_aload_n hx hb dX9_turn_147 rfl (lv_at hl 0 rfl) ?_
  refine gfWM_HiddenEdgesModel_xOf hc hP q_99 dX9_turn_148 ?_
  refine lv_iload_n hx hb dX9_turn_151 rfl (lv_at hl 3 rfl) ?_
  obtain ⟨h3, h⟩ := chk_at h
  refine alWM_HiddenEdgesModel_xOf hc hP h3 dX9_turn_152 ?_
  refine lv_icmp_ne (tgt := 182) hx hb dX9_turn_153 (by decide) (fun hq => ?_) (fun hq => ?_)
  · replace h := if_no hq h
    refine lv_iconst (v := 1) hx hb dX9_turn_182 (by decide) ?_
    refine lv_iadd hx hb dX9_turn_183 ?_
    refine lv_topi (fun x4 ex4 => ?_)
    replace h := olet_at ex4 h
    refine lv_istore_n (lv' := [(2, .int x4), (0, .ref (a 0)), (1, .int v1), (3, .int v3), (4, .int v4), (5, .int v5), (6, .int v6)]) hx hb dX9_turn_184 rfl hl (by decide) rfl (fun ls hl => ?_)
    obtain ⟨x5, ex5⟩ : ∃ y : Int32, y = v3 + (1 : Int32) := ⟨_, rfl⟩
    replace h := olet_at ex5 h
    refine lv_iinc (v := x5) (lv' := [(3, .int x5), (2, .int x4), (0, .ref (a 0)), (1, .int v1), (4, .int v4), (5, .int v5), (6, .int v6)]) hx hb dX9_turn_185 hl (k := 3) rfl (by rw [ex5]; rfl) (by decide) rfl (fun ls hl => ?_)
    refine lv_goto (tgt := 16) hx hb dX9_turn_188 (by decide) ?_
    exact K16 S2 v1 x4 x5 h H locs ls hP hS (lv_sub hl [2, 3, 1, 0] rfl)
  · replace h := if_yes hq h
    refine lv_iload hx hb dX9_turn_156 (lv_at hl 5 rfl) ?_
    refine lv_aload_n hx hb dX9_turn_158 rfl (lv_at hl 0 rfl) ?_
    refine gfWM_HiddenEdgesModel_yOf hc hP q_100 dX9_turn_159 ?_
    refine lv_iload_n hx hb dX9_turn_162 rfl (lv_at hl 3 rfl) ?_
    obtain ⟨h6, h⟩ := chk_at h
    refine alWM_HiddenEdgesModel_yOf hc hP h6 dX9_turn_163 ?_
    refine lv_icmp_ne (tgt := 182) hx hb dX9_turn_164 (by decide) (fun hq => ?_) (fun hq => ?_)
    · replace h := if_no hq h
      refine lv_iconst (v := 1) hx hb dX9_turn_182 (by decide) ?_
      refine lv_iadd hx hb dX9_turn_183 ?_
      refine lv_topi (fun x7 ex7 => ?_)
      replace h := olet_at ex7 h
      refine lv_istore_n (lv' := [(2, .int x7), (0, .ref (a 0)), (1, .int v1), (3, .int v3), (4, .int v4), (5, .int v5), (6, .int v6)]) hx hb dX9_turn_184 rfl hl (by decide) rfl (fun ls hl => ?_)
      obtain ⟨x8, ex8⟩ : ∃ y : Int32, y = v3 + (1 : Int32) := ⟨_, rfl⟩
      replace h := olet_at ex8 h
      refine lv_iinc (v := x8) (lv' := [(3, .int x8), (2, .int x7), (0, .ref (a 0)), (1, .int v1), (4, .int v4), (5, .int v5), (6, .int v6)]) hx hb dX9_turn_185 hl (k := 3) rfl (by rw [ex8]; rfl) (by decide) rfl (fun ls hl => ?_)
      refine lv_goto (tgt := 16) hx hb dX9_turn_188 (by decide) ?_
      exact K16 S2 v1 x7 x8 h H locs ls hP hS (lv_sub hl [2, 3, 1, 0] rfl)
    · replace h := if_yes hq h
      refine lv_iload hx hb dX9_turn_167 (lv_at hl 6 rfl) ?_
      refine lv_aload_n hx hb dX9_turn_169 rfl (lv_at hl 0 rfl) ?_
      refine gfWM_HiddenEdgesModel_zOf hc hP q_101 dX9_turn_170 ?_
      refine lv_iload_n hx hb dX9_turn_173 rfl (lv_at hl 3 rfl) ?_
      obtain ⟨h9, h⟩ := chk_at h
      refine alWM_HiddenEdgesModel_zOf hc hP h9 dX9_turn_174 ?_
      refine lv_icmp_ne (tgt := 182) hx hb dX9_turn_175 (by decide) (fun hq => ?_) (fun hq => ?_)
      · replace h := if_no hq h
        refine lv_iconst (v := 1) hx hb dX9_turn_182 (by decide) ?_
        refine lv_iadd hx hb dX9_turn_183 ?_
        refine lv_topi (fun x10 ex10 => ?_)
        replace h := olet_at ex10 h
        refine lv_istore_n (lv' := [(2, .int x10), (0, .ref (a 0)), (1, .int v1), (3, .int v3), (4, .int v4), (5, .int v5), (6, .int v6)]) hx hb dX9_turn_184 rfl hl (by decide) rfl (fun ls hl => ?_)
        obtain ⟨x11, ex11⟩ : ∃ y : Int32, y = v3 + (1 : Int32) := ⟨_, rfl⟩
        replace h := olet_at ex11 h
        refine lv_iinc (v := x11) (lv' := [(3, .int x11), (2, .int x10), (0, .ref (a 0)), (1, .int v1), (4, .int v4), (5, .int v5), (6, .int v6)]) hx hb dX9_turn_185 hl (k := 3) rfl (by rw [ex11]; rfl) (by decide) rfl (fun ls hl => ?_)
        refine lv_goto (tgt := 16) hx hb dX9_turn_188 (by decide) ?_
        exact K16 S2 v1 x10 x11 h H locs ls hP hS (lv_sub hl [2, 3, 1, 0] rfl)
      · replace h := if_yes hq h
        refine lv_iconst (v := 0) hx hb dX9_turn_178 (by decide) ?_
        refine lv_goto (tgt := 183) hx hb dX9_turn_179 (by decide) ?_
        refine lv_iadd hx hb dX9_turn_183 ?_
        refine lv_topi (fun x12 ex12 => ?_)
        replace h := olet_at ex12 h
        refine lv_istore_n (lv' := [(2, .int x12), (0, .ref (a 0)), (1, .int v1), (3, .int v3), (4, .int v4), (5, .int v5), (6, .int v6)]) hx hb dX9_turn_184 rfl hl (by decide) rfl (fun ls hl => ?_)
        obtain ⟨x13, ex13⟩ : ∃ y : Int32, y = v3 + (1 : Int32) := ⟨_, rfl⟩
        replace h := olet_at ex13 h
        refine lv_iinc (v := x13) (lv' := [(3, .int x13), (2, .int x12), (0, .ref (a 0)), (1, .int v1), (4, .int v4), (5, .int v5), (6, .int v6)]) hx hb dX9_turn_185 hl (k := 3) rfl (by rw [ex13]; rfl) (by decide) rfl (fun ls hl => ?_)
        refine lv_goto (tgt := 16) hx hb dX9_turn_188 (by decide) ?_
        exact K16 S2 v1 x12 x13 h H locs ls hP hS (lv_sub hl [2, 3, 1, 0] rfl)
set_option maxHeartbeats 4000000 in
set_option maxRecDepth 100000 in
theorem t_X9_turn_p104 {z : St × Int32} (hc : Cx p R s m args c D (tysWM g) A (WM a g) cX9_turn 7 RX9 1 22) (hr : Rti p l e R s m args below meth c Q D A (WM a g) cX9_turn z) {k16 : St → Int32 → Int32 → Int32 → Option (St × Int32)} (K16 : ∀ (S : St) (v1 : Int32) (v2 : Int32) (v3 : Int32), k16 S v1 v2 v3 = some z → Go p l e R s m args below meth c Q D A (WM a g) 7 S 16 [(0, .ref (a 0)), (1, .int v1), (2, .int v2), (3, .int v3)] []) : ∀ (S : St) (v1 : Int32) (v2 : Int32) (v3 : Int32) (v4 : Int32) (v5 : Int32) (v6 : Int32) (s1 : Int32) (s2 : Int32), f_X9_turn_p104 k16 S v1 v2 v3 v4 v5 v6 s1 s2 = some z → Go p l e R s m args below meth c Q D A (WM a g) 7 S 104 [(0, .ref (a 0)), (1, .int v1), (2, .int v2), (3, .int v3), (4, .int v4), (5, .int v5), (6, .int v6)] [.int s2, .int s1, .ref (a 2)] := by
  obtain ⟨⟨hx, hb, hml, hown, hts⟩, -, -, -, hnf, hno⟩ := id hc
  intro S v1 v2 v3 v4 v5 v6 s1 s2 h H locs ls hP hS hl
  rw [f_X9_turn_p104] at h
  obtain ⟨h1, h⟩ := chk_at h
  refine asWM_HiddenEdgesModel_yOf hc hP hS h1 dX9_turn_104 (fun H locs hP hS => ?_)
  obtain ⟨S2, eS2⟩ : ∃ z, z = sa S 1 (s1).toNatClampNeg s2 := ⟨_, rfl⟩
  replace h := olet_at eS2 h
  rw [← eS2] at hP
  refine lv_aload_n hx hb dX9_turn_105 rfl (lv_at hl 0 rfl) ?_
  refine gfWM_HiddenEdgesModel_zOf hc hP q_101 dX9_turn_106 ?_
  refine lv_iload_n hx hb dX9_turn_109 rfl (lv_at hl 3 rfl) ?_
  refine lv_iload_n hx hb dX9_turn_110 rfl (lv_at hl 1 rfl) ?_
  refine lv_if_ne (tgt := 119) hx hb dX9_turn_111 (by decide) (fun hq => ?_) (fun hq => ?_)
  · replace h := if_no hq h
    refine lv_iload_n hx hb dX9_turn_119 rfl (lv_at hl 1 rfl) ?_
    refine lv_iconst (v := 1) hx hb dX9_turn_120 (by decide) ?_
    refine lv_icmp_ne (tgt := 130) hx hb dX9_turn_121 (by decide) (fun hq => ?_) (fun hq => ?_)
    · replace h := if_no hq h
      refine lv_iload_n hx hb dX9_turn_130 rfl (lv_at hl 1 rfl) ?_
      refine lv_iconst (v := 3) hx hb dX9_turn_131 (by decide) ?_
      refine lv_icmp_ne (tgt := 141) hx hb dX9_turn_132 (by decide) (fun hq => ?_) (fun hq => ?_)
      · replace h := if_no hq h
        refine lv_iload hx hb dX9_turn_141 (lv_at hl 6 rfl) ?_
        exact t_X9_turn_p143 hc hr K16 S2 v1 v2 v3 v4 v5 v6 v3 v6 h H locs ls hP hS (lv_sub hl [0, 1, 2, 3, 4, 5, 6] rfl)
      · replace h := if_yes hq h
        refine lv_iload hx hb dX9_turn_135 (lv_at hl 6 rfl) ?_
        refine lv_ineg hx hb dX9_turn_137 ?_
        refine lv_goto (tgt := 143) hx hb dX9_turn_138 (by decide) ?_
        exact t_X9_turn_p143 hc hr K16 S2 v1 v2 v3 v4 v5 v6 v3 (-v6) h H locs ls hP hS (lv_sub hl [0, 1, 2, 3, 4, 5, 6] rfl)
    · replace h := if_yes hq h
      refine lv_iload hx hb dX9_turn_124 (lv_at hl 4 rfl) ?_
      refine lv_ineg hx hb dX9_turn_126 ?_
      refine lv_goto (tgt := 143) hx hb dX9_turn_127 (by decide) ?_
      exact t_X9_turn_p143 hc hr K16 S2 v1 v2 v3 v4 v5 v6 v3 (-v4) h H locs ls hP hS (lv_sub hl [0, 1, 2, 3, 4, 5, 6] rfl)
  · replace h := if_yes hq h
    refine lv_iload hx hb dX9_turn_114 (lv_at hl 5 rfl) ?_
    refine lv_goto (tgt := 143) hx hb dX9_turn_116 (by decide) ?_
    exact t_X9_turn_p143 hc hr K16 S2 v1 v2 v3 v4 v5 v6 v3 v5 h H locs ls hP hS (lv_sub hl [0, 1, 2, 3, 4, 5, 6] rfl)
set_option maxHeartbeats 4000000 in
set_option maxRecDepth 100000 in
theorem t_X9_turn_p76 {z : St × Int32} (hc : Cx p R s m args c D (tysWM g) A (WM a g) cX9_turn 7 RX9 1 22) (hr : Rti p l e R s m args below meth c Q D A (WM a g) cX9_turn z) {k16 : St → Int32 → Int32 → Int32 → Option (St × Int32)} (K16 : ∀ (S : St) (v1 : Int32) (v2 : Int32) (v3 : Int32), k16 S v1 v2 v3 = some z → Go p l e R s m args below meth c Q D A (WM a g) 7 S 16 [(0, .ref (a 0)), (1, .int v1), (2, .int v2), (3, .int v3)] []) : ∀ (S : St) (v1 : Int32) (v2 : Int32) (v3 : Int32) (v4 : Int32) (v5 : Int32) (v6 : Int32) (s1 : Int32) (s2 : Int32), f_X9_turn_p76 k16 S v1 v2 v3 v4 v5 v6 s1 s2 = some z → Go p l e R s m args below meth c Q D A (WM a g) 7 S 76 [(0, .ref (a 0)), (1, .int v1), (2, .int v2), (3, .int v3), (4, .int v4), (5, .int v5), (6, .int v6)] [.int s2, .int s1, .ref (a 1)] := by
  obtain ⟨⟨hx, hb, hml, hown, hts⟩, -, -, -, hnf, hno⟩ := id hc
  intro S v1 v2 v3 v4 v5 v6 s1 s2 h H locs ls hP hS hl
  rw [f_X9_turn_p76] at h
  obtain ⟨h1, h⟩ := chk_at h
  refine asWM_HiddenEdgesModel_xOf hc hP hS h1 dX9_turn_76 (fun H locs hP hS => ?_)
  obtain ⟨S2, eS2⟩ : ∃ z, z = sa S 0 (s1).toNatClampNeg s2 := ⟨_, rfl⟩
  replace h := olet_at eS2 h
  rw [← eS2] at hP
  refine lv_aload_n hx hb dX9_turn_77 rfl (lv_at hl 0 rfl) ?_
  refine gfWM_HiddenEdgesModel_yOf hc hP q_100 dX9_turn_78 ?_
  refine lv_iload_n hx hb dX9_turn_81 rfl (lv_at hl 3 rfl) ?_
  refine lv_iload_n hx hb dX9_turn_82 rfl (lv_at hl 1 rfl) ?_
  refine lv_if_ne (tgt := 92) hx hb dX9_turn_83 (by decide) (fun hq => ?_) (fun hq => ?_)
  · replace h := if_no hq h
    refine lv_iload_n hx hb dX9_turn_92 rfl (lv_at hl 1 rfl) ?_
    refine lv_iconst (v := 2) hx hb dX9_turn_93 (by decide) ?_
    refine lv_icmp_ne (tgt := 102) hx hb dX9_turn_94 (by decide) (fun hq => ?_) (fun hq => ?_)
    · replace h := if_no hq h
      refine lv_iload hx hb dX9_turn_102 (lv_at hl 5 rfl) ?_
      exact t_X9_turn_p104 hc hr K16 S2 v1 v2 v3 v4 v5 v6 v3 v5 h H locs ls hP hS (lv_sub hl [0, 1, 2, 3, 4, 5, 6] rfl)
    · replace h := if_yes hq h
      refine lv_iload hx hb dX9_turn_97 (lv_at hl 4 rfl) ?_
      refine lv_goto (tgt := 104) hx hb dX9_turn_99 (by decide) ?_
      exact t_X9_turn_p104 hc hr K16 S2 v1 v2 v3 v4 v5 v6 v3 v4 h H locs ls hP hS (lv_sub hl [0, 1, 2, 3, 4, 5, 6] rfl)
  · replace h := if_yes hq h
    refine lv_iload hx hb dX9_turn_86 (lv_at hl 6 rfl) ?_
    refine lv_ineg hx hb dX9_turn_88 ?_
    refine lv_goto (tgt := 104) hx hb dX9_turn_89 (by decide) ?_
    exact t_X9_turn_p104 hc hr K16 S2 v1 v2 v3 v4 v5 v6 v3 (-v6) h H locs ls hP hS (lv_sub hl [0, 1, 2, 3, 4, 5, 6] rfl)
set_option maxHeartbeats 4000000 in
set_option maxRecDepth 100000 in
theorem t_X9_turn_p16 {z : St × Int32} (hc : Cx p R s m args c D (tysWM g) A (WM a g) cX9_turn 7 RX9 1 22) (hr : Rti p l e R s m args below meth c Q D A (WM a g) cX9_turn z) : ∀ (fu : Nat) (S : St) (v1 : Int32) (v2 : Int32) (v3 : Int32), f_X9_turn_p16 fu S v1 v2 v3 = some z → Go p l e R s m args below meth c Q D A (WM a g) 7 S 16 [(0, .ref (a 0)), (1, .int v1), (2, .int v2), (3, .int v3)] [] := by
  obtain ⟨⟨hx, hb, hml, hown, hts⟩, -, -, -, hnf, hno⟩ := id hc
  intro fu
  induction fu with
  | zero =>
    intro S v1 v2 v3 h
    rw [f_X9_turn_p16] at h
    cases h
  | succ fu ih =>
    intro S v1 v2 v3 h H locs ls hP hS hl
    rw [f_X9_turn_p16] at h
    refine lv_iload_n hx hb dX9_turn_16 rfl (lv_at hl 3 rfl) ?_
    refine lv_aload_n hx hb dX9_turn_17 rfl (lv_at hl 0 rfl) ?_
    refine gfWM_HiddenEdgesModel_points hc hP q_154 dX9_turn_18 ?_
    refine lv_icmp_ge (tgt := 191) hx hb dX9_turn_21 (by decide) (fun hq => ?_) (fun hq => ?_)
    · replace h := if_yes hq h
      refine lv_aload_n hx hb dX9_turn_191 rfl (lv_at hl 0 rfl) ?_
      refine lv_iconst (v := 0) hx hb dX9_turn_192 (by decide) ?_
      refine pfWM_HiddenEdgesModel_isFound hc hP hS (Or.inl rfl) q_169 dX9_turn_193 (fun H locs hP hS => ?_)
      obtain ⟨S1, eS1⟩ : ∃ z, z = si S 6 (0 : Int32) := ⟨_, rfl⟩
      replace h := olet_at eS1 h
      rw [← eS1] at hP
      refine lv_iload_n hx hb dX9_turn_196 rfl (lv_at hl 2 rfl) ?_
      obtain rfl := Option.some.inj h
      exact hr _ _ _ _ dX9_turn_197 hP hS
    · replace h := if_no hq h
      refine lv_aload_n hx hb dX9_turn_24 rfl (lv_at hl 0 rfl) ?_
      refine gfWM_HiddenEdgesModel_xOf hc hP q_99 dX9_turn_25 ?_
      refine lv_iload_n hx hb dX9_turn_28 rfl (lv_at hl 3 rfl) ?_
      obtain ⟨h2, h⟩ := chk_at h
      refine alWM_HiddenEdgesModel_xOf hc hP h2 dX9_turn_29 ?_
      refine lv_topi (fun x3 ex3 => ?_)
      replace h := olet_at ex3 h
      refine lv_istore (lv' := [(4, .int x3), (0, .ref (a 0)), (1, .int v1), (2, .int v2), (3, .int v3)]) hx hb dX9_turn_30 hl (by decide) rfl (fun ls hl => ?_)
      refine lv_aload_n hx hb dX9_turn_32 rfl (lv_at hl 1 rfl) ?_
      refine gfWM_HiddenEdgesModel_yOf hc hP q_100 dX9_turn_33 ?_
      refine lv_iload_n hx hb dX9_turn_36 rfl (lv_at hl 4 rfl) ?_
      obtain ⟨h4, h⟩ := chk_at h
      refine alWM_HiddenEdgesModel_yOf hc hP h4 dX9_turn_37 ?_
      refine lv_topi (fun x5 ex5 => ?_)
      replace h := olet_at ex5 h
      refine lv_istore (lv' := [(5, .int x5), (4, .int x3), (0, .ref (a 0)), (1, .int v1), (2, .int v2), (3, .int v3)]) hx hb dX9_turn_38 hl (by decide) rfl (fun ls hl => ?_)
      refine lv_aload_n hx hb dX9_turn_40 rfl (lv_at hl 2 rfl) ?_
      refine gfWM_HiddenEdgesModel_zOf hc hP q_101 dX9_turn_41 ?_
      refine lv_iload_n hx hb dX9_turn_44 rfl (lv_at hl 5 rfl) ?_
      obtain ⟨h6, h⟩ := chk_at h
      refine alWM_HiddenEdgesModel_zOf hc hP h6 dX9_turn_45 ?_
      refine lv_topi (fun x7 ex7 => ?_)
      replace h := olet_at ex7 h
      refine lv_istore (lv' := [(6, .int x7), (5, .int x5), (4, .int x3), (0, .ref (a 0)), (1, .int v1), (2, .int v2), (3, .int v3)]) hx hb dX9_turn_46 hl (by decide) rfl (fun ls hl => ?_)
      refine lv_aload_n hx hb dX9_turn_48 rfl (lv_at hl 3 rfl) ?_
      refine gfWM_HiddenEdgesModel_xOf hc hP q_99 dX9_turn_49 ?_
      refine lv_iload_n hx hb dX9_turn_52 rfl (lv_at hl 6 rfl) ?_
      refine lv_iload_n hx hb dX9_turn_53 rfl (lv_at hl 4 rfl) ?_
      refine lv_iconst (v := 1) hx hb dX9_turn_54 (by decide) ?_
      refine lv_icmp_ne (tgt := 63) hx hb dX9_turn_55 (by decide) (fun hq => ?_) (fun hq => ?_)
      · replace h := if_no hq h
        refine lv_iload_n hx hb dX9_turn_63 rfl (lv_at hl 4 rfl) ?_
        refine lv_iconst (v := 2) hx hb dX9_turn_64 (by decide) ?_
        refine lv_icmp_ne (tgt := 74) hx hb dX9_turn_65 (by decide) (fun hq => ?_) (fun hq => ?_)
        · replace h := if_no hq h
          refine lv_iload hx hb dX9_turn_74 (lv_at hl 2 rfl) ?_
          exact t_X9_turn_p76 hc hr ih S v1 v2 v3 x3 x5 x7 v3 x3 h H locs ls hP hS (lv_sub hl [3, 4, 5, 6, 2, 1, 0] rfl)
        · replace h := if_yes hq h
          refine lv_iload hx hb dX9_turn_68 (lv_at hl 1 rfl) ?_
          refine lv_ineg hx hb dX9_turn_70 ?_
          refine lv_goto (tgt := 76) hx hb dX9_turn_71 (by decide) ?_
          exact t_X9_turn_p76 hc hr ih S v1 v2 v3 x3 x5 x7 v3 (-x5) h H locs ls hP hS (lv_sub hl [3, 4, 5, 6, 2, 1, 0] rfl)
      · replace h := if_yes hq h
        refine lv_iload hx hb dX9_turn_58 (lv_at hl 0 rfl) ?_
        refine lv_goto (tgt := 76) hx hb dX9_turn_60 (by decide) ?_
        exact t_X9_turn_p76 hc hr ih S v1 v2 v3 x3 x5 x7 v3 x7 h H locs ls hP hS (lv_sub hl [3, 4, 5, 6, 2, 1, 0] rfl)
set_option maxHeartbeats 4000000 in
set_option maxRecDepth 100000 in
theorem t_X9_turn {z : St × Int32} (hc : Cx p R s m args c D (tysWM g) A (WM a g) cX9_turn 7 RX9 1 22) (hr : Rti p l e R s m args below meth c Q D A (WM a g) cX9_turn z) : ∀ (S : St) (v1 : Int32), f_X9_turn S v1 = some z → Go p l e R s m args below meth c Q D A (WM a g) 7 S 0 [(0, .ref (a 0)), (1, .int v1)] [] := by
  obtain ⟨⟨hx, hb, hml, hown, hts⟩, -, -, -, hnf, hno⟩ := id hc
  intro S v1 h H locs ls hP hS hl
  rw [f_X9_turn] at h
  replace hl : lv_has ls 7 [(0, .ref (a 0)), (1, .int v1)] := hl
  refine lv_iload_n hx hb dX9_turn_0 rfl (lv_at hl 1 rfl) ?_
  refine lv_iconst (v := 0) hx hb dX9_turn_1 (by decide) ?_
  refine lv_iconst (v := 3) hx hb dX9_turn_2 (by decide) ?_
  obtain ⟨S1, x3, hk2, h⟩ := ob2_at h
  refine cl_Si (As := [.int v1, .int (0 : Int32), .int (3 : Int32)]) (rest := []) hc k_X9_within q_158 (c_X9_within hk2) hP hS rfl hl (Nat.le_of_ble_eq_true rfl) dX9_turn_3 (Nat.le_of_ble_eq_true rfl) (Nat.le_of_ble_eq_true rfl) rfl (fun H locs hP hS => ?_)
  refine lv_if_ne (tgt := 12) hx hb dX9_turn_6 (by decide) (fun hq => ?_) (fun hq => ?_)
  · replace h := if_no hq h
    refine lv_iconst (v := 0) hx hb dX9_turn_12 (by decide) ?_
    refine lv_istore_n (lv' := [(2, .int (0 : Int32)), (0, .ref (a 0)), (1, .int v1)]) hx hb dX9_turn_13 rfl hl (by decide) rfl (fun ls hl => ?_)
    refine lv_iconst (v := 0) hx hb dX9_turn_14 (by decide) ?_
    refine lv_istore_n (lv' := [(3, .int (0 : Int32)), (2, .int (0 : Int32)), (0, .ref (a 0)), (1, .int v1)]) hx hb dX9_turn_15 rfl hl (by decide) rfl (fun ls hl => ?_)
    exact t_X9_turn_p16 hc hr FU S1 v1 (0 : Int32) (0 : Int32) h H locs ls hP hS (lv_sub hl [2, 3, 1, 0] rfl)
  · replace h := if_yes hq h
    refine lv_bipush (v := -2) hx hb dX9_turn_9 (by decide) ?_
    obtain rfl := Option.some.inj h
    exact hr _ _ _ _ dX9_turn_11 hP hS
abbrev rm_X9_turn : Room := { frames := 1, cells := 0, slots := 0, locals := 22 }
theorem c_X9_turn {l : Launch} {D : va_G} {a : Nat → Nat} {g : Nat → ClassId} {S : St} {v1 : Int32} {z : St × Int32} (h : f_X9_turn S v1 = some z) : MetI l D (tysWM g) (WM a g) E0 yX9_turn cX9_turn 7 (some .int) rm_X9_turn [.ref (a 0), .int v1] S z := mk_i (WM_same a g) (by decide) z (Nat.le_of_ble_eq_true rfl) (fun p e s m args below meth c A Q hc hE hr => t_X9_turn hc hr S v1 h)
theorem k_X9_turn : CalV RX9 yX9_turn cX9_turn 7 (some .int) rm_X9_turn 1 := ⟨q_313, q_314, q_5, q_315, by decide +kernel, rfl, rfl⟩
set_option maxHeartbeats 4000000 in
set_option maxRecDepth 100000 in
theorem t_X9_move_p93 {z : St × Int32} (hc : Cx p R s m args c D (tysWM g) A (WM a g) cX9_move 5 RX9 2 44) (hr : Rti p l e R s m args below meth c Q D A (WM a g) cX9_move z) : ∀ (fu : Nat) (S : St) (v1 : Int32) (v2 : Int32) (v3 : Int32) (v4 : Int32), f_X9_move_p93 fu S v1 v2 v3 v4 = some z → Go p l e R s m args below meth c Q D A (WM a g) 5 S 93 [(0, .ref (a 0)), (1, .int v1), (2, .int v2), (3, .int v3), (4, .int v4)] [] := by
  obtain ⟨⟨hx, hb, hml, hown, hts⟩, -, -, -, hnf, hno⟩ := id hc
  intro fu
  induction fu with
  | zero =>
    intro S v1 v2 v3 v4 h
    rw [f_X9_move_p93] at h
    cases h
  | succ fu ih =>
    intro S v1 v2 v3 v4 h H locs ls hP hS hl
    rw [f_X9_move_p93] at h
    refine lv_iload hx hb dX9_move_93 (lv_at hl 4 rfl) ?_
    refine lv_aload_n hx hb dX9_move_95 rfl (lv_at hl 0 rfl) ?_
    refine gfWM_HiddenEdgesModel_points hc hP q_154 dX9_move_96 ?_
    refine lv_icmp_ge (tgt := 141) hx hb dX9_move_99 (by decide) (fun hq => ?_) (fun hq => ?_)
    · replace h := if_yes hq h
      refine lv_aload_n hx hb dX9_move_141 rfl (lv_at hl 0 rfl) ?_
      refine lv_iconst (v := 0) hx hb dX9_move_142 (by decide) ?_
      refine pfWM_HiddenEdgesModel_isFound hc hP hS (Or.inl rfl) q_169 dX9_move_143 (fun H locs hP hS => ?_)
      obtain ⟨S1, eS1⟩ : ∃ z, z = si S 6 (0 : Int32) := ⟨_, rfl⟩
      replace h := olet_at eS1 h
      rw [← eS1] at hP
      refine lv_iconst (v := 1) hx hb dX9_move_146 (by decide) ?_
      obtain rfl := Option.some.inj h
      exact hr _ _ _ _ dX9_move_147 hP hS
    · replace h := if_no hq h
      refine lv_aload_n hx hb dX9_move_102 rfl (lv_at hl 0 rfl) ?_
      refine gfWM_HiddenEdgesModel_xOf hc hP q_99 dX9_move_103 ?_
      refine lv_iload hx hb dX9_move_106 (lv_at hl 4 rfl) ?_
      refine lv_dup2_11 hx hb dX9_move_108 rfl rfl ?_
      obtain ⟨h2, h⟩ := chk_at h
      refine alWM_HiddenEdgesModel_xOf hc hP h2 dX9_move_109 ?_
      refine lv_iload_n hx hb dX9_move_110 rfl (lv_at hl 1 rfl) ?_
      refine lv_iadd hx hb dX9_move_111 ?_
      obtain ⟨h3, h⟩ := chk_at h
      refine asWM_HiddenEdgesModel_xOf hc hP hS h3 dX9_move_112 (fun H locs hP hS => ?_)
      obtain ⟨S4, eS4⟩ : ∃ z, z = sa S 0 (v4).toNatClampNeg ((ga S 0 (v4).toNatClampNeg) + v1) := ⟨_, rfl⟩
      replace h := olet_at eS4 h
      rw [← eS4] at hP
      refine lv_aload_n hx hb dX9_move_113 rfl (lv_at hl 0 rfl) ?_
      refine gfWM_HiddenEdgesModel_yOf hc hP q_100 dX9_move_114 ?_
      refine lv_iload hx hb dX9_move_117 (lv_at hl 4 rfl) ?_
      refine lv_dup2_11 hx hb dX9_move_119 rfl rfl ?_
      obtain ⟨h5, h⟩ := chk_at h
      refine alWM_HiddenEdgesModel_yOf hc hP h5 dX9_move_120 ?_
      refine lv_iload_n hx hb dX9_move_121 rfl (lv_at hl 2 rfl) ?_
      refine lv_iadd hx hb dX9_move_122 ?_
      obtain ⟨h6, h⟩ := chk_at h
      refine asWM_HiddenEdgesModel_yOf hc hP hS h6 dX9_move_123 (fun H locs hP hS => ?_)
      obtain ⟨S7, eS7⟩ : ∃ z, z = sa S4 1 (v4).toNatClampNeg ((ga S4 1 (v4).toNatClampNeg) + v2) := ⟨_, rfl⟩
      replace h := olet_at eS7 h
      rw [← eS7] at hP
      refine lv_aload_n hx hb dX9_move_124 rfl (lv_at hl 0 rfl) ?_
      refine gfWM_HiddenEdgesModel_zOf hc hP q_101 dX9_move_125 ?_
      refine lv_iload hx hb dX9_move_128 (lv_at hl 4 rfl) ?_
      refine lv_dup2_11 hx hb dX9_move_130 rfl rfl ?_
      obtain ⟨h8, h⟩ := chk_at h
      refine alWM_HiddenEdgesModel_zOf hc hP h8 dX9_move_131 ?_
      refine lv_iload_n hx hb dX9_move_132 rfl (lv_at hl 3 rfl) ?_
      refine lv_iadd hx hb dX9_move_133 ?_
      obtain ⟨h9, h⟩ := chk_at h
      refine asWM_HiddenEdgesModel_zOf hc hP hS h9 dX9_move_134 (fun H locs hP hS => ?_)
      obtain ⟨S10, eS10⟩ : ∃ z, z = sa S7 2 (v4).toNatClampNeg ((ga S7 2 (v4).toNatClampNeg) + v3) := ⟨_, rfl⟩
      replace h := olet_at eS10 h
      rw [← eS10] at hP
      obtain ⟨x11, ex11⟩ : ∃ y : Int32, y = v4 + (1 : Int32) := ⟨_, rfl⟩
      replace h := olet_at ex11 h
      refine lv_iinc (v := x11) (lv' := [(4, .int x11), (0, .ref (a 0)), (1, .int v1), (2, .int v2), (3, .int v3)]) hx hb dX9_move_135 hl (k := 4) rfl (by rw [ex11]; rfl) (by decide) rfl (fun ls hl => ?_)
      refine lv_goto (tgt := 93) hx hb dX9_move_138 (by decide) ?_
      exact ih S10 v1 v2 v3 x11 h H locs ls hP hS (lv_sub hl [1, 2, 3, 4, 0] rfl)
set_option maxHeartbeats 4000000 in
set_option maxRecDepth 100000 in
theorem t_X9_move_p39 {z : St × Int32} (hc : Cx p R s m args c D (tysWM g) A (WM a g) cX9_move 5 RX9 2 44) (hr : Rti p l e R s m args below meth c Q D A (WM a g) cX9_move z) : ∀ (fu : Nat) (S : St) (v1 : Int32) (v2 : Int32) (v3 : Int32) (v4 : Int32), f_X9_move_p39 fu S v1 v2 v3 v4 = some z → Go p l e R s m args below meth c Q D A (WM a g) 5 S 39 [(0, .ref (a 0)), (1, .int v1), (2, .int v2), (3, .int v3), (4, .int v4)] [] := by
  obtain ⟨⟨hx, hb, hml, hown, hts⟩, -, -, -, hnf, hno⟩ := id hc
  intro fu
  induction fu with
  | zero =>
    intro S v1 v2 v3 v4 h
    rw [f_X9_move_p39] at h
    cases h
  | succ fu ih =>
    intro S v1 v2 v3 v4 h H locs ls hP hS hl
    rw [f_X9_move_p39] at h
    refine lv_iload hx hb dX9_move_39 (lv_at hl 4 rfl) ?_
    refine lv_aload_n hx hb dX9_move_41 rfl (lv_at hl 0 rfl) ?_
    refine gfWM_HiddenEdgesModel_points hc hP q_154 dX9_move_42 ?_
    refine lv_icmp_ge (tgt := 90) hx hb dX9_move_45 (by decide) (fun hq => ?_) (fun hq => ?_)
    · replace h := if_yes hq h
      refine lv_iconst (v := 0) hx hb dX9_move_90 (by decide) ?_
      refine lv_istore (lv' := [(4, .int (0 : Int32)), (0, .ref (a 0)), (1, .int v1), (2, .int v2), (3, .int v3)]) hx hb dX9_move_91 hl (by decide) rfl (fun ls hl => ?_)
      exact t_X9_move_p93 hc hr FU S v1 v2 v3 (0 : Int32) h H locs ls hP hS (lv_sub hl [1, 2, 3, 4, 0] rfl)
    · replace h := if_no hq h
      refine lv_aload_n hx hb dX9_move_48 rfl (lv_at hl 0 rfl) ?_
      refine gfWM_HiddenEdgesModel_xOf hc hP q_99 dX9_move_49 ?_
      refine lv_iload hx hb dX9_move_52 (lv_at hl 4 rfl) ?_
      obtain ⟨h1, h⟩ := chk_at h
      refine alWM_HiddenEdgesModel_xOf hc hP h1 dX9_move_54 ?_
      refine lv_iload_n hx hb dX9_move_55 rfl (lv_at hl 1 rfl) ?_
      refine lv_iadd hx hb dX9_move_56 ?_
      refine lv_aload_n hx hb dX9_move_57 rfl (lv_at hl 0 rfl) ?_
      refine gfWM_HiddenEdgesModel_yOf hc hP q_100 dX9_move_58 ?_
      refine lv_iload hx hb dX9_move_61 (lv_at hl 4 rfl) ?_
      obtain ⟨h2, h⟩ := chk_at h
      refine alWM_HiddenEdgesModel_yOf hc hP h2 dX9_move_63 ?_
      refine lv_iload_n hx hb dX9_move_64 rfl (lv_at hl 2 rfl) ?_
      refine lv_iadd hx hb dX9_move_65 ?_
      refine lv_aload_n hx hb dX9_move_66 rfl (lv_at hl 0 rfl) ?_
      refine gfWM_HiddenEdgesModel_zOf hc hP q_101 dX9_move_67 ?_
      refine lv_iload hx hb dX9_move_70 (lv_at hl 4 rfl) ?_
      obtain ⟨h3, h⟩ := chk_at h
      refine alWM_HiddenEdgesModel_zOf hc hP h3 dX9_move_72 ?_
      refine lv_iload_n hx hb dX9_move_73 rfl (lv_at hl 3 rfl) ?_
      refine lv_iadd hx hb dX9_move_74 ?_
      obtain ⟨S4, x6, hk5, h⟩ := ob2_at h
      refine cl_Si (As := [.int ((ga S 0 (v4).toNatClampNeg) + v1), .int ((ga S 1 (v4).toNatClampNeg) + v2), .int ((ga S 2 (v4).toNatClampNeg) + v3)]) (rest := []) hc k_X9_isPlace q_155 (c_X9_isPlace hk5) hP hS rfl hl (Nat.le_of_ble_eq_true rfl) dX9_move_75 (Nat.le_of_ble_eq_true rfl) (Nat.le_of_ble_eq_true rfl) rfl (fun H locs hP hS => ?_)
      refine lv_if_ne (tgt := 84) hx hb dX9_move_78 (by decide) (fun hq => ?_) (fun hq => ?_)
      · replace h := if_no hq h
        obtain ⟨x7, ex7⟩ : ∃ y : Int32, y = v4 + (1 : Int32) := ⟨_, rfl⟩
        replace h := olet_at ex7 h
        refine lv_iinc (v := x7) (lv' := [(4, .int x7), (0, .ref (a 0)), (1, .int v1), (2, .int v2), (3, .int v3)]) hx hb dX9_move_84 hl (k := 4) rfl (by rw [ex7]; rfl) (by decide) rfl (fun ls hl => ?_)
        refine lv_goto (tgt := 39) hx hb dX9_move_87 (by decide) ?_
        exact ih S4 v1 v2 v3 x7 h H locs ls hP hS (lv_sub hl [1, 2, 3, 4, 0] rfl)
      · replace h := if_yes hq h
        refine lv_bipush (v := -3) hx hb dX9_move_81 (by decide) ?_
        obtain rfl := Option.some.inj h
        exact hr _ _ _ _ dX9_move_83 hP hS
set_option maxHeartbeats 4000000 in
set_option maxRecDepth 100000 in
theorem t_X9_move {z : St × Int32} (hc : Cx p R s m args c D (tysWM g) A (WM a g) cX9_move 5 RX9 2 44) (hr : Rti p l e R s m args below meth c Q D A (WM a g) cX9_move z) : ∀ (S : St) (v1 : Int32) (v2 : Int32) (v3 : Int32), f_X9_move S v1 v2 v3 = some z → Go p l e R s m args below meth c Q D A (WM a g) 5 S 0 [(0, .ref (a 0)), (1, .int v1), (2, .int v2), (3, .int v3)] [] := by
  obtain ⟨⟨hx, hb, hml, hown, hts⟩, -, -, -, hnf, hno⟩ := id hc
  intro S v1 v2 v3 h H locs ls hP hS hl
  rw [f_X9_move] at h
  replace hl : lv_has ls 5 [(0, .ref (a 0)), (1, .int v1), (2, .int v2), (3, .int v3)] := hl
  refine lv_iload_n hx hb dX9_move_0 rfl (lv_at hl 1 rfl) ?_
  refine lv_bipush (v := -18) hx hb dX9_move_1 (by decide) ?_
  refine lv_bipush (v := 18) hx hb dX9_move_3 (by decide) ?_
  obtain ⟨S1, x3, hk2, h⟩ := ob2_at h
  refine cl_Si (As := [.int v1, .int (-18 : Int32), .int (18 : Int32)]) (rest := []) hc k_X9_within q_158 (c_X9_within hk2) hP hS rfl hl (Nat.le_of_ble_eq_true rfl) dX9_move_5 (Nat.le_of_ble_eq_true rfl) (Nat.le_of_ble_eq_true rfl) rfl (fun H locs hP hS => ?_)
  refine lv_if_eq (tgt := 33) hx hb dX9_move_8 (by decide) (fun hq => ?_) (fun hq => ?_)
  · replace h := if_yes hq h
    refine lv_bipush (v := -2) hx hb dX9_move_33 (by decide) ?_
    obtain rfl := Option.some.inj h
    exact hr _ _ _ _ dX9_move_35 hP hS
  · replace h := if_no hq h
    refine lv_iload_n hx hb dX9_move_11 rfl (lv_at hl 2 rfl) ?_
    refine lv_bipush (v := -18) hx hb dX9_move_12 (by decide) ?_
    refine lv_bipush (v := 18) hx hb dX9_move_14 (by decide) ?_
    obtain ⟨S4, x6, hk5, h⟩ := ob2_at h
    refine cl_Si (As := [.int v2, .int (-18 : Int32), .int (18 : Int32)]) (rest := []) hc k_X9_within q_158 (c_X9_within hk5) hP hS rfl hl (Nat.le_of_ble_eq_true rfl) dX9_move_16 (Nat.le_of_ble_eq_true rfl) (Nat.le_of_ble_eq_true rfl) rfl (fun H locs hP hS => ?_)
    refine lv_if_eq (tgt := 33) hx hb dX9_move_19 (by decide) (fun hq => ?_) (fun hq => ?_)
    · replace h := if_yes hq h
      refine lv_bipush (v := -2) hx hb dX9_move_33 (by decide) ?_
      obtain rfl := Option.some.inj h
      exact hr _ _ _ _ dX9_move_35 hP hS
    · replace h := if_no hq h
      refine lv_iload_n hx hb dX9_move_22 rfl (lv_at hl 3 rfl) ?_
      refine lv_bipush (v := -18) hx hb dX9_move_23 (by decide) ?_
      refine lv_bipush (v := 18) hx hb dX9_move_25 (by decide) ?_
      obtain ⟨S7, x9, hk8, h⟩ := ob2_at h
      refine cl_Si (As := [.int v3, .int (-18 : Int32), .int (18 : Int32)]) (rest := []) hc k_X9_within q_158 (c_X9_within hk8) hP hS rfl hl (Nat.le_of_ble_eq_true rfl) dX9_move_27 (Nat.le_of_ble_eq_true rfl) (Nat.le_of_ble_eq_true rfl) rfl (fun H locs hP hS => ?_)
      refine lv_if_ne (tgt := 36) hx hb dX9_move_30 (by decide) (fun hq => ?_) (fun hq => ?_)
      · replace h := if_no hq h
        refine lv_iconst (v := 0) hx hb dX9_move_36 (by decide) ?_
        refine lv_istore (lv' := [(4, .int (0 : Int32)), (0, .ref (a 0)), (1, .int v1), (2, .int v2), (3, .int v3)]) hx hb dX9_move_37 hl (by decide) rfl (fun ls hl => ?_)
        exact t_X9_move_p39 hc hr FU S7 v1 v2 v3 (0 : Int32) h H locs ls hP hS (lv_sub hl [1, 2, 3, 4, 0] rfl)
      · replace h := if_yes hq h
        refine lv_bipush (v := -2) hx hb dX9_move_33 (by decide) ?_
        obtain rfl := Option.some.inj h
        exact hr _ _ _ _ dX9_move_35 hP hS
abbrev rm_X9_move : Room := { frames := 2, cells := 0, slots := 0, locals := 44 }
theorem c_X9_move {l : Launch} {D : va_G} {a : Nat → Nat} {g : Nat → ClassId} {S : St} {v1 : Int32} {v2 : Int32} {v3 : Int32} {z : St × Int32} (h : f_X9_move S v1 v2 v3 = some z) : MetI l D (tysWM g) (WM a g) E0 yX9_move cX9_move 5 (some .int) rm_X9_move [.ref (a 0), .int v1, .int v2, .int v3] S z := mk_i (WM_same a g) (by decide) z (Nat.le_of_ble_eq_true rfl) (fun p e s m args below meth c A Q hc hE hr => t_X9_move hc hr S v1 v2 v3 h)
theorem k_X9_move : CalV RX9 yX9_move cX9_move 5 (some .int) rm_X9_move 3 := ⟨q_325, q_326, q_5, q_327, by decide +kernel, rfl, rfl⟩
set_option maxHeartbeats 4000000 in
set_option maxRecDepth 100000 in
theorem t_X9_commonFaces_p5 {z : St × Int32} (hc : Cx p R s m args c D (tysWM g) A (WM a g) cX9_commonFaces 5 RX9 1 22) (hr : Rti p l e R s m args below meth c Q D A (WM a g) cX9_commonFaces z) : ∀ (fu : Nat) (S : St) (v1 : Int32) (v2 : Int32) (v3 : Int32) (v4 : Int32), f_X9_commonFaces_p5 fu S v1 v2 v3 v4 = some z → Go p l e R s m args below meth c Q D A (WM a g) 5 S 5 [(0, .ref (a 0)), (1, .int v1), (2, .int v2), (3, .int v3), (4, .int v4)] [] := by
  obtain ⟨⟨hx, hb, hml, hown, hts⟩, -, -, -, hnf, hno⟩ := id hc
  intro fu
  induction fu with
  | zero =>
    intro S v1 v2 v3 v4 h
    rw [f_X9_commonFaces_p5] at h
    cases h
  | succ fu ih =>
    intro S v1 v2 v3 v4 h H locs ls hP hS hl
    rw [f_X9_commonFaces_p5] at h
    refine lv_iload hx hb dX9_commonFaces_5 (lv_at hl 4 rfl) ?_
    refine lv_aload_n hx hb dX9_commonFaces_7 rfl (lv_at hl 0 rfl) ?_
    refine gfWM_HiddenEdgesModel_faces hc hP q_207 dX9_commonFaces_8 ?_
    refine lv_icmp_ge (tgt := 48) hx hb dX9_commonFaces_11 (by decide) (fun hq => ?_) (fun hq => ?_)
    · replace h := if_yes hq h
      refine lv_iload_n hx hb dX9_commonFaces_48 rfl (lv_at hl 3 rfl) ?_
      obtain rfl := Option.some.inj h
      exact hr _ _ _ _ dX9_commonFaces_49 hP hS
    · replace h := if_no hq h
      refine lv_iload_n hx hb dX9_commonFaces_14 rfl (lv_at hl 3 rfl) ?_
      refine lv_aload_n hx hb dX9_commonFaces_15 rfl (lv_at hl 0 rfl) ?_
      refine lv_iload hx hb dX9_commonFaces_16 (lv_at hl 4 rfl) ?_
      refine lv_iload_n hx hb dX9_commonFaces_18 rfl (lv_at hl 1 rfl) ?_
      obtain ⟨S1, x3, hk2, h⟩ := ob2_at h
      refine cl_Vi (As := [.int v4, .int v1]) (rest := [.int v3]) hc k_X9_hasCorner q_220 (c_X9_hasCorner hk2) hP hS (WM_0 a g S) rfl rfl rfl hl (Nat.le_of_ble_eq_true rfl) dX9_commonFaces_19 (Nat.le_of_ble_eq_true rfl) (Nat.le_of_ble_eq_true rfl) rfl (fun H locs hP hS => ?_)
      refine lv_if_eq (tgt := 39) hx hb dX9_commonFaces_22 (by decide) (fun hq => ?_) (fun hq => ?_)
      · replace h := if_yes hq h
        refine lv_iconst (v := 0) hx hb dX9_commonFaces_39 (by decide) ?_
        refine lv_iadd hx hb dX9_commonFaces_40 ?_
        refine lv_topi (fun x4 ex4 => ?_)
        replace h := olet_at ex4 h
        refine lv_istore_n (lv' := [(3, .int x4), (0, .ref (a 0)), (1, .int v1), (2, .int v2), (4, .int v4)]) hx hb dX9_commonFaces_41 rfl hl (by decide) rfl (fun ls hl => ?_)
        obtain ⟨x5, ex5⟩ : ∃ y : Int32, y = v4 + (1 : Int32) := ⟨_, rfl⟩
        replace h := olet_at ex5 h
        refine lv_iinc (v := x5) (lv' := [(4, .int x5), (3, .int x4), (0, .ref (a 0)), (1, .int v1), (2, .int v2)]) hx hb dX9_commonFaces_42 hl (k := 4) rfl (by rw [ex5]; rfl) (by decide) rfl (fun ls hl => ?_)
        refine lv_goto (tgt := 5) hx hb dX9_commonFaces_45 (by decide) ?_
        exact ih S1 v1 v2 x4 x5 h H locs ls hP hS (lv_sub hl [2, 3, 4, 1, 0] rfl)
      · replace h := if_no hq h
        refine lv_aload_n hx hb dX9_commonFaces_25 rfl (lv_at hl 0 rfl) ?_
        refine lv_iload hx hb dX9_commonFaces_26 (lv_at hl 4 rfl) ?_
        refine lv_iload_n hx hb dX9_commonFaces_28 rfl (lv_at hl 2 rfl) ?_
        obtain ⟨S6, x8, hk7, h⟩ := ob2_at h
        refine cl_Vi (As := [.int v4, .int v2]) (rest := [.int v3]) hc k_X9_hasCorner q_220 (c_X9_hasCorner hk7) hP hS (WM_0 a g S1) rfl rfl rfl hl (Nat.le_of_ble_eq_true rfl) dX9_commonFaces_29 (Nat.le_of_ble_eq_true rfl) (Nat.le_of_ble_eq_true rfl) rfl (fun H locs hP hS => ?_)
        refine lv_if_eq (tgt := 39) hx hb dX9_commonFaces_32 (by decide) (fun hq => ?_) (fun hq => ?_)
        · replace h := if_yes hq h
          refine lv_iconst (v := 0) hx hb dX9_commonFaces_39 (by decide) ?_
          refine lv_iadd hx hb dX9_commonFaces_40 ?_
          refine lv_topi (fun x9 ex9 => ?_)
          replace h := olet_at ex9 h
          refine lv_istore_n (lv' := [(3, .int x9), (0, .ref (a 0)), (1, .int v1), (2, .int v2), (4, .int v4)]) hx hb dX9_commonFaces_41 rfl hl (by decide) rfl (fun ls hl => ?_)
          obtain ⟨x10, ex10⟩ : ∃ y : Int32, y = v4 + (1 : Int32) := ⟨_, rfl⟩
          replace h := olet_at ex10 h
          refine lv_iinc (v := x10) (lv' := [(4, .int x10), (3, .int x9), (0, .ref (a 0)), (1, .int v1), (2, .int v2)]) hx hb dX9_commonFaces_42 hl (k := 4) rfl (by rw [ex10]; rfl) (by decide) rfl (fun ls hl => ?_)
          refine lv_goto (tgt := 5) hx hb dX9_commonFaces_45 (by decide) ?_
          exact ih S6 v1 v2 x9 x10 h H locs ls hP hS (lv_sub hl [2, 3, 4, 1, 0] rfl)
        · replace h := if_no hq h
          refine lv_iconst (v := 1) hx hb dX9_commonFaces_35 (by decide) ?_
          refine lv_goto (tgt := 40) hx hb dX9_commonFaces_36 (by decide) ?_
          refine lv_iadd hx hb dX9_commonFaces_40 ?_
          refine lv_topi (fun x11 ex11 => ?_)
          replace h := olet_at ex11 h
          refine lv_istore_n (lv' := [(3, .int x11), (0, .ref (a 0)), (1, .int v1), (2, .int v2), (4, .int v4)]) hx hb dX9_commonFaces_41 rfl hl (by decide) rfl (fun ls hl => ?_)
          obtain ⟨x12, ex12⟩ : ∃ y : Int32, y = v4 + (1 : Int32) := ⟨_, rfl⟩
          replace h := olet_at ex12 h
          refine lv_iinc (v := x12) (lv' := [(4, .int x12), (3, .int x11), (0, .ref (a 0)), (1, .int v1), (2, .int v2)]) hx hb dX9_commonFaces_42 hl (k := 4) rfl (by rw [ex12]; rfl) (by decide) rfl (fun ls hl => ?_)
          refine lv_goto (tgt := 5) hx hb dX9_commonFaces_45 (by decide) ?_
          exact ih S6 v1 v2 x11 x12 h H locs ls hP hS (lv_sub hl [2, 3, 4, 1, 0] rfl)
set_option maxHeartbeats 4000000 in
set_option maxRecDepth 100000 in
theorem t_X9_commonFaces {z : St × Int32} (hc : Cx p R s m args c D (tysWM g) A (WM a g) cX9_commonFaces 5 RX9 1 22) (hr : Rti p l e R s m args below meth c Q D A (WM a g) cX9_commonFaces z) : ∀ (S : St) (v1 : Int32) (v2 : Int32), f_X9_commonFaces S v1 v2 = some z → Go p l e R s m args below meth c Q D A (WM a g) 5 S 0 [(0, .ref (a 0)), (1, .int v1), (2, .int v2)] [] := by
  obtain ⟨⟨hx, hb, hml, hown, hts⟩, -, -, -, hnf, hno⟩ := id hc
  intro S v1 v2 h H locs ls hP hS hl
  rw [f_X9_commonFaces] at h
  replace hl : lv_has ls 5 [(0, .ref (a 0)), (1, .int v1), (2, .int v2)] := hl
  refine lv_iconst (v := 0) hx hb dX9_commonFaces_0 (by decide) ?_
  refine lv_istore_n (lv' := [(3, .int (0 : Int32)), (0, .ref (a 0)), (1, .int v1), (2, .int v2)]) hx hb dX9_commonFaces_1 rfl hl (by decide) rfl (fun ls hl => ?_)
  refine lv_iconst (v := 0) hx hb dX9_commonFaces_2 (by decide) ?_
  refine lv_istore (lv' := [(4, .int (0 : Int32)), (3, .int (0 : Int32)), (0, .ref (a 0)), (1, .int v1), (2, .int v2)]) hx hb dX9_commonFaces_3 hl (by decide) rfl (fun ls hl => ?_)
  exact t_X9_commonFaces_p5 hc hr FU S v1 v2 (0 : Int32) (0 : Int32) h H locs ls hP hS (lv_sub hl [2, 3, 4, 1, 0] rfl)
abbrev rm_X9_commonFaces : Room := { frames := 1, cells := 0, slots := 0, locals := 22 }
theorem c_X9_commonFaces {l : Launch} {D : va_G} {a : Nat → Nat} {g : Nat → ClassId} {S : St} {v1 : Int32} {v2 : Int32} {z : St × Int32} (h : f_X9_commonFaces S v1 v2 = some z) : MetI l D (tysWM g) (WM a g) E0 yX9_commonFaces cX9_commonFaces 5 (some .int) rm_X9_commonFaces [.ref (a 0), .int v1, .int v2] S z := mk_i (WM_same a g) (by decide) z (Nat.le_of_ble_eq_true rfl) (fun p e s m args below meth c A Q hc hE hr => t_X9_commonFaces hc hr S v1 v2 h)
theorem k_X9_commonFaces : CalV RX9 yX9_commonFaces cX9_commonFaces 5 (some .int) rm_X9_commonFaces 2 := ⟨q_553, q_554, q_5, q_555, by decide +kernel, rfl, rfl⟩
set_option maxHeartbeats 4000000 in
set_option maxRecDepth 100000 in
theorem t_X9_thirdOf_p31 {z : St × Int32} (hc : Cx p R s m args c D (tysWM g) A (WM a g) cX9_thirdOf 6 RX9 0 0) (hr : Rti p l e R s m args below meth c Q D A (WM a g) cX9_thirdOf z) {k13 : St → Int32 → Int32 → Int32 → Int32 → Int32 → Option (St × Int32)} (K13 : ∀ (S : St) (v1 : Int32) (v2 : Int32) (v3 : Int32) (v4 : Int32) (v5 : Int32), k13 S v1 v2 v3 v4 v5 = some z → Go p l e R s m args below meth c Q D A (WM a g) 6 S 13 [(0, .ref (a 0)), (1, .int v1), (2, .int v2), (3, .int v3), (4, .int v4), (5, .int v5)] []) : ∀ (S : St) (v1 : Int32) (v2 : Int32) (v3 : Int32) (v5 : Int32), f_X9_thirdOf_p31 k13 S v1 v2 v3 v5 = some z → Go p l e R s m args below meth c Q D A (WM a g) 6 S 31 [(0, .ref (a 0)), (1, .int v1), (2, .int v2), (3, .int v3), (5, .int v5)] [] := by
  obtain ⟨⟨hx, hb, hml, hown, hts⟩, -, -, -, hnf, hno⟩ := id hc
  intro S v1 v2 v3 v5 h H locs ls hP hS hl
  rw [f_X9_thirdOf_p31] at h
  refine lv_aload_n hx hb dX9_thirdOf_31 rfl (lv_at hl 0 rfl) ?_
  refine gfWM_HiddenEdgesModel_cornerOf hc hP q_102 dX9_thirdOf_32 ?_
  refine lv_iconst (v := 3) hx hb dX9_thirdOf_35 (by decide) ?_
  refine lv_iload_n hx hb dX9_thirdOf_36 rfl (lv_at hl 1 rfl) ?_
  refine lv_imul hx hb dX9_thirdOf_37 ?_
  refine lv_iload hx hb dX9_thirdOf_38 (lv_at hl 4 rfl) ?_
  refine lv_iadd hx hb dX9_thirdOf_40 ?_
  obtain ⟨h1, h⟩ := chk_at h
  refine alWM_HiddenEdgesModel_cornerOf hc hP h1 dX9_thirdOf_41 ?_
  refine lv_goto (tgt := 47) hx hb dX9_thirdOf_42 (by decide) ?_
  refine lv_topi (fun x2 ex2 => ?_)
  replace h := olet_at ex2 h
  refine lv_istore (lv' := [(4, .int x2), (0, .ref (a 0)), (1, .int v1), (2, .int v2), (3, .int v3), (5, .int v5)]) hx hb dX9_thirdOf_47 hl (by decide) rfl (fun ls hl => ?_)
  obtain ⟨x3, ex3⟩ : ∃ y : Int32, y = v5 + (1 : Int32) := ⟨_, rfl⟩
  replace h := olet_at ex3 h
  refine lv_iinc (v := x3) (lv' := [(5, .int x3), (4, .int x2), (0, .ref (a 0)), (1, .int v1), (2, .int v2), (3, .int v3)]) hx hb dX9_thirdOf_49 hl (k := 5) rfl (by rw [ex3]; rfl) (by decide) rfl (fun ls hl => ?_)
  refine lv_goto (tgt := 13) hx hb dX9_thirdOf_52 (by decide) ?_
  exact K13 S v1 v2 v3 x2 x3 h H locs ls hP hS (lv_sub hl [2, 3, 4, 5, 1, 0] rfl)
set_option maxHeartbeats 4000000 in
set_option maxRecDepth 100000 in
theorem t_X9_thirdOf_p13 {z : St × Int32} (hc : Cx p R s m args c D (tysWM g) A (WM a g) cX9_thirdOf 6 RX9 0 0) (hr : Rti p l e R s m args below meth c Q D A (WM a g) cX9_thirdOf z) : ∀ (fu : Nat) (S : St) (v1 : Int32) (v2 : Int32) (v3 : Int32) (v4 : Int32) (v5 : Int32), f_X9_thirdOf_p13 fu S v1 v2 v3 v4 v5 = some z → Go p l e R s m args below meth c Q D A (WM a g) 6 S 13 [(0, .ref (a 0)), (1, .int v1), (2, .int v2), (3, .int v3), (4, .int v4), (5, .int v5)] [] := by
  obtain ⟨⟨hx, hb, hml, hown, hts⟩, -, -, -, hnf, hno⟩ := id hc
  intro fu
  induction fu with
  | zero =>
    intro S v1 v2 v3 v4 v5 h
    rw [f_X9_thirdOf_p13] at h
    cases h
  | succ fu ih =>
    intro S v1 v2 v3 v4 v5 h H locs ls hP hS hl
    rw [f_X9_thirdOf_p13] at h
    refine lv_iload hx hb dX9_thirdOf_13 (lv_at hl 5 rfl) ?_
    refine lv_iconst (v := 3) hx hb dX9_thirdOf_15 (by decide) ?_
    refine lv_icmp_ge (tgt := 55) hx hb dX9_thirdOf_16 (by decide) (fun hq => ?_) (fun hq => ?_)
    · replace h := if_yes hq h
      refine lv_iload hx hb dX9_thirdOf_55 (lv_at hl 4 rfl) ?_
      obtain rfl := Option.some.inj h
      exact hr _ _ _ _ dX9_thirdOf_57 hP hS
    · replace h := if_no hq h
      refine lv_iload hx hb dX9_thirdOf_19 (lv_at hl 4 rfl) ?_
      refine lv_iload_n hx hb dX9_thirdOf_21 rfl (lv_at hl 2 rfl) ?_
      refine lv_icmp_eq (tgt := 31) hx hb dX9_thirdOf_22 (by decide) (fun hq => ?_) (fun hq => ?_)
      · replace h := if_yes hq h
        exact t_X9_thirdOf_p31 hc hr ih S v1 v2 v3 v5 h H locs ls hP hS (lv_sub hl [0, 1, 2, 3, 5] rfl)
      · replace h := if_no hq h
        refine lv_iload hx hb dX9_thirdOf_25 (lv_at hl 4 rfl) ?_
        refine lv_iload_n hx hb dX9_thirdOf_27 rfl (lv_at hl 3 rfl) ?_
        refine lv_icmp_ne (tgt := 45) hx hb dX9_thirdOf_28 (by decide) (fun hq => ?_) (fun hq => ?_)
        · replace h := if_no hq h
          refine lv_iload hx hb dX9_thirdOf_45 (lv_at hl 4 rfl) ?_
          refine lv_istore (lv' := [(4, .int v4), (0, .ref (a 0)), (1, .int v1), (2, .int v2), (3, .int v3), (5, .int v5)]) hx hb dX9_thirdOf_47 hl (by decide) rfl (fun ls hl => ?_)
          obtain ⟨x1, ex1⟩ : ∃ y : Int32, y = v5 + (1 : Int32) := ⟨_, rfl⟩
          replace h := olet_at ex1 h
          refine lv_iinc (v := x1) (lv' := [(5, .int x1), (4, .int v4), (0, .ref (a 0)), (1, .int v1), (2, .int v2), (3, .int v3)]) hx hb dX9_thirdOf_49 hl (k := 5) rfl (by rw [ex1]; rfl) (by decide) rfl (fun ls hl => ?_)
          refine lv_goto (tgt := 13) hx hb dX9_thirdOf_52 (by decide) ?_
          exact ih S v1 v2 v3 v4 x1 h H locs ls hP hS (lv_sub hl [2, 3, 4, 5, 1, 0] rfl)
        · replace h := if_yes hq h
          exact t_X9_thirdOf_p31 hc hr ih S v1 v2 v3 v5 h H locs ls hP hS (lv_sub hl [0, 1, 2, 3, 5] rfl)
set_option maxHeartbeats 4000000 in
set_option maxRecDepth 100000 in
theorem t_X9_thirdOf {z : St × Int32} (hc : Cx p R s m args c D (tysWM g) A (WM a g) cX9_thirdOf 6 RX9 0 0) (hr : Rti p l e R s m args below meth c Q D A (WM a g) cX9_thirdOf z) : ∀ (S : St) (v1 : Int32) (v2 : Int32) (v3 : Int32), f_X9_thirdOf S v1 v2 v3 = some z → Go p l e R s m args below meth c Q D A (WM a g) 6 S 0 [(0, .ref (a 0)), (1, .int v1), (2, .int v2), (3, .int v3)] [] := by
  obtain ⟨⟨hx, hb, hml, hown, hts⟩, -, -, -, hnf, hno⟩ := id hc
  intro S v1 v2 v3 h H locs ls hP hS hl
  rw [f_X9_thirdOf] at h
  replace hl : lv_has ls 6 [(0, .ref (a 0)), (1, .int v1), (2, .int v2), (3, .int v3)] := hl
  refine lv_aload_n hx hb dX9_thirdOf_0 rfl (lv_at hl 0 rfl) ?_
  refine gfWM_HiddenEdgesModel_cornerOf hc hP q_102 dX9_thirdOf_1 ?_
  refine lv_iconst (v := 3) hx hb dX9_thirdOf_4 (by decide) ?_
  refine lv_iload_n hx hb dX9_thirdOf_5 rfl (lv_at hl 1 rfl) ?_
  refine lv_imul hx hb dX9_thirdOf_6 ?_
  obtain ⟨h1, h⟩ := chk_at h
  refine alWM_HiddenEdgesModel_cornerOf hc hP h1 dX9_thirdOf_7 ?_
  refine lv_topi (fun x2 ex2 => ?_)
  replace h := olet_at ex2 h
  refine lv_istore (lv' := [(4, .int x2), (0, .ref (a 0)), (1, .int v1), (2, .int v2), (3, .int v3)]) hx hb dX9_thirdOf_8 hl (by decide) rfl (fun ls hl => ?_)
  refine lv_iconst (v := 1) hx hb dX9_thirdOf_10 (by decide) ?_
  refine lv_istore (lv' := [(5, .int (1 : Int32)), (4, .int x2), (0, .ref (a 0)), (1, .int v1), (2, .int v2), (3, .int v3)]) hx hb dX9_thirdOf_11 hl (by decide) rfl (fun ls hl => ?_)
  exact t_X9_thirdOf_p13 hc hr FU S v1 v2 v3 x2 (1 : Int32) h H locs ls hP hS (lv_sub hl [2, 3, 4, 5, 1, 0] rfl)
abbrev rm_X9_thirdOf : Room := { frames := 0, cells := 0, slots := 0, locals := 0 }
theorem c_X9_thirdOf {l : Launch} {D : va_G} {a : Nat → Nat} {g : Nat → ClassId} {S : St} {v1 : Int32} {v2 : Int32} {v3 : Int32} {z : St × Int32} (h : f_X9_thirdOf S v1 v2 v3 = some z) : MetI l D (tysWM g) (WM a g) E0 yX9_thirdOf cX9_thirdOf 6 (some .int) rm_X9_thirdOf [.ref (a 0), .int v1, .int v2, .int v3] S z := mk_i (WM_same a g) (by decide) z (Nat.le_of_ble_eq_true rfl) (fun p e s m args below meth c A Q hc hE hr => t_X9_thirdOf hc hr S v1 v2 v3 h)
theorem k_X9_thirdOf : CalV RX9 yX9_thirdOf cX9_thirdOf 6 (some .int) rm_X9_thirdOf 3 := ⟨q_561, q_562, q_5, q_563, by decide +kernel, rfl, rfl⟩
set_option maxHeartbeats 4000000 in
set_option maxRecDepth 100000 in
theorem t_X9_vol {z : St × Int64} (hc : Cx p R s m args c D (tysWM g) A (WM a g) cX9_vol 9 RX9 0 0) (hr : Rtl p l e R s m args below meth c Q D A (WM a g) cX9_vol z) : ∀ (S : St) (v0 : Int32) (v1 : Int32) (v2 : Int32) (v3 : Int32) (v4 : Int32) (v5 : Int32) (v6 : Int32) (v7 : Int32) (v8 : Int32), f_X9_vol S v0 v1 v2 v3 v4 v5 v6 v7 v8 = some z → Go p l e R s m args below meth c Q D A (WM a g) 9 S 0 [(0, .int v0), (1, .int v1), (2, .int v2), (3, .int v3), (4, .int v4), (5, .int v5), (6, .int v6), (7, .int v7), (8, .int v8)] [] := by
  obtain ⟨⟨hx, hb, hml, hown, hts⟩, -, -, -, hnf, hno⟩ := id hc
  intro S v0 v1 v2 v3 v4 v5 v6 v7 v8 h H locs ls hP hS hl
  rw [f_X9_vol] at h
  replace hl : lv_has ls 9 [(0, .int v0), (1, .int v1), (2, .int v2), (3, .int v3), (4, .int v4), (5, .int v5), (6, .int v6), (7, .int v7), (8, .int v8)] := hl
  refine lv_iload_n hx hb dX9_vol_0 rfl (lv_at hl 0 rfl) ?_
  refine lv_i2l (v := (v0).toInt64) hx hb dX9_vol_1 rfl ?_
  refine lv_iload hx hb dX9_vol_2 (lv_at hl 4 rfl) ?_
  refine lv_iload hx hb dX9_vol_4 (lv_at hl 8 rfl) ?_
  refine lv_imul hx hb dX9_vol_6 ?_
  refine lv_iload hx hb dX9_vol_7 (lv_at hl 5 rfl) ?_
  refine lv_iload hx hb dX9_vol_9 (lv_at hl 7 rfl) ?_
  refine lv_imul hx hb dX9_vol_11 ?_
  refine lv_isub hx hb dX9_vol_12 ?_
  refine lv_i2l (v := (((v4 * v8) - (v5 * v7))).toInt64) hx hb dX9_vol_13 rfl ?_
  refine lv_lmul hx hb dX9_vol_14 ?_
  refine lv_iload_n hx hb dX9_vol_15 rfl (lv_at hl 1 rfl) ?_
  refine lv_i2l (v := (v1).toInt64) hx hb dX9_vol_16 rfl ?_
  refine lv_iload hx hb dX9_vol_17 (lv_at hl 5 rfl) ?_
  refine lv_iload hx hb dX9_vol_19 (lv_at hl 6 rfl) ?_
  refine lv_imul hx hb dX9_vol_21 ?_
  refine lv_iload_n hx hb dX9_vol_22 rfl (lv_at hl 3 rfl) ?_
  refine lv_iload hx hb dX9_vol_23 (lv_at hl 8 rfl) ?_
  refine lv_imul hx hb dX9_vol_25 ?_
  refine lv_isub hx hb dX9_vol_26 ?_
  refine lv_i2l (v := (((v5 * v6) - (v3 * v8))).toInt64) hx hb dX9_vol_27 rfl ?_
  refine lv_lmul hx hb dX9_vol_28 ?_
  refine lv_ladd hx hb dX9_vol_29 ?_
  refine lv_iload_n hx hb dX9_vol_30 rfl (lv_at hl 2 rfl) ?_
  refine lv_i2l (v := (v2).toInt64) hx hb dX9_vol_31 rfl ?_
  refine lv_iload_n hx hb dX9_vol_32 rfl (lv_at hl 3 rfl) ?_
  refine lv_iload hx hb dX9_vol_33 (lv_at hl 7 rfl) ?_
  refine lv_imul hx hb dX9_vol_35 ?_
  refine lv_iload hx hb dX9_vol_36 (lv_at hl 4 rfl) ?_
  refine lv_iload hx hb dX9_vol_38 (lv_at hl 6 rfl) ?_
  refine lv_imul hx hb dX9_vol_40 ?_
  refine lv_isub hx hb dX9_vol_41 ?_
  refine lv_i2l (v := (((v3 * v7) - (v4 * v6))).toInt64) hx hb dX9_vol_42 rfl ?_
  refine lv_lmul hx hb dX9_vol_43 ?_
  refine lv_ladd hx hb dX9_vol_44 ?_
  obtain rfl := Option.some.inj h
  exact hr _ _ _ _ dX9_vol_45 hP hS
abbrev rm_X9_vol : Room := { frames := 0, cells := 0, slots := 0, locals := 0 }
theorem c_X9_vol {l : Launch} {D : va_G} {a : Nat → Nat} {g : Nat → ClassId} {S : St} {v0 : Int32} {v1 : Int32} {v2 : Int32} {v3 : Int32} {v4 : Int32} {v5 : Int32} {v6 : Int32} {v7 : Int32} {v8 : Int32} {z : St × Int64} (h : f_X9_vol S v0 v1 v2 v3 v4 v5 v6 v7 v8 = some z) : MetL l D (tysWM g) (WM a g) E0 yX9_vol cX9_vol 9 (some .long) rm_X9_vol [.int v0, .int v1, .int v2, .int v3, .int v4, .int v5, .int v6, .int v7, .int v8] S z := mk_l (WM_same a g) (by decide) z (Nat.le_of_ble_eq_true rfl) (fun p e s m args below meth c A Q hc hE hr => t_X9_vol hc hr S v0 v1 v2 v3 v4 v5 v6 v7 v8 h)
theorem k_X9_vol : CalS yX9_vol cX9_vol 9 (some .long) rm_X9_vol 9 := ⟨q_569, q_5, q_570, by decide +kernel, rfl, rfl⟩
set_option maxHeartbeats 4000000 in
set_option maxRecDepth 100000 in
theorem t_X9_volBy {z : St × Int64} (hc : Cx p R s m args c D (tysWM g) A (WM a g) cX9_volBy 9 RX9 1 28) (hr : Rtl p l e R s m args below meth c Q D A (WM a g) cX9_volBy z) : ∀ (S : St) (v1 : Int32) (v2 : Int32) (v3 : Int32) (v4 : Int32) (v5 : Int32) (v6 : Int32) (v7 : Int32) (v8 : Int32), f_X9_volBy S v1 v2 v3 v4 v5 v6 v7 v8 = some z → Go p l e R s m args below meth c Q D A (WM a g) 9 S 0 [(0, .ref (a 0)), (1, .int v1), (2, .int v2), (3, .int v3), (4, .int v4), (5, .int v5), (6, .int v6), (7, .int v7), (8, .int v8)] [] := by
  obtain ⟨⟨hx, hb, hml, hown, hts⟩, -, -, -, hnf, hno⟩ := id hc
  intro S v1 v2 v3 v4 v5 v6 v7 v8 h H locs ls hP hS hl
  rw [f_X9_volBy] at h
  replace hl : lv_has ls 9 [(0, .ref (a 0)), (1, .int v1), (2, .int v2), (3, .int v3), (4, .int v4), (5, .int v5), (6, .int v6), (7, .int v7), (8, .int v8)] := hl
  refine lv_aload_n hx hb dX9_volBy_0 rfl (lv_at hl 0 rfl) ?_
  refine gfWM_HiddenEdgesModel_xOf hc hP q_99 dX9_volBy_1 ?_
  refine lv_iload_n hx hb dX9_volBy_4 rfl (lv_at hl 2 rfl) ?_
  obtain ⟨h1, h⟩ := chk_at h
  refine alWM_HiddenEdgesModel_xOf hc hP h1 dX9_volBy_5 ?_
  refine lv_aload_n hx hb dX9_volBy_6 rfl (lv_at hl 0 rfl) ?_
  refine gfWM_HiddenEdgesModel_xOf hc hP q_99 dX9_volBy_7 ?_
  refine lv_iload_n hx hb dX9_volBy_10 rfl (lv_at hl 1 rfl) ?_
  obtain ⟨h2, h⟩ := chk_at h
  refine alWM_HiddenEdgesModel_xOf hc hP h2 dX9_volBy_11 ?_
  refine lv_isub hx hb dX9_volBy_12 ?_
  refine lv_aload_n hx hb dX9_volBy_13 rfl (lv_at hl 0 rfl) ?_
  refine gfWM_HiddenEdgesModel_yOf hc hP q_100 dX9_volBy_14 ?_
  refine lv_iload_n hx hb dX9_volBy_17 rfl (lv_at hl 2 rfl) ?_
  obtain ⟨h3, h⟩ := chk_at h
  refine alWM_HiddenEdgesModel_yOf hc hP h3 dX9_volBy_18 ?_
  refine lv_aload_n hx hb dX9_volBy_19 rfl (lv_at hl 0 rfl) ?_
  refine gfWM_HiddenEdgesModel_yOf hc hP q_100 dX9_volBy_20 ?_
  refine lv_iload_n hx hb dX9_volBy_23 rfl (lv_at hl 1 rfl) ?_
  obtain ⟨h4, h⟩ := chk_at h
  refine alWM_HiddenEdgesModel_yOf hc hP h4 dX9_volBy_24 ?_
  refine lv_isub hx hb dX9_volBy_25 ?_
  refine lv_aload_n hx hb dX9_volBy_26 rfl (lv_at hl 0 rfl) ?_
  refine gfWM_HiddenEdgesModel_zOf hc hP q_101 dX9_volBy_27 ?_
  refine lv_iload_n hx hb dX9_volBy_30 rfl (lv_at hl 2 rfl) ?_
  obtain ⟨h5, h⟩ := chk_at h
  refine alWM_HiddenEdgesModel_zOf hc hP h5 dX9_volBy_31 ?_
  refine lv_aload_n hx hb dX9_volBy_32 rfl (lv_at hl 0 rfl) ?_
  refine gfWM_HiddenEdgesModel_zOf hc hP q_101 dX9_volBy_33 ?_
  refine lv_iload_n hx hb dX9_volBy_36 rfl (lv_at hl 1 rfl) ?_
  obtain ⟨h6, h⟩ := chk_at h
  refine alWM_HiddenEdgesModel_zOf hc hP h6 dX9_volBy_37 ?_
  refine lv_isub hx hb dX9_volBy_38 ?_
  refine lv_iload_n hx hb dX9_volBy_39 rfl (lv_at hl 3 rfl) ?_
  refine lv_iload hx hb dX9_volBy_40 (lv_at hl 4 rfl) ?_
  refine lv_iload hx hb dX9_volBy_42 (lv_at hl 5 rfl) ?_
  refine lv_iload hx hb dX9_volBy_44 (lv_at hl 6 rfl) ?_
  refine lv_iload hx hb dX9_volBy_46 (lv_at hl 7 rfl) ?_
  refine lv_iload hx hb dX9_volBy_48 (lv_at hl 8 rfl) ?_
  obtain ⟨S7, x9, hk8, h⟩ := ob2_at h
  refine cl_Sl (As := [.int ((ga S 0 (v2).toNatClampNeg) - (ga S 0 (v1).toNatClampNeg)), .int ((ga S 1 (v2).toNatClampNeg) - (ga S 1 (v1).toNatClampNeg)), .int ((ga S 2 (v2).toNatClampNeg) - (ga S 2 (v1).toNatClampNeg)), .int v3, .int v4, .int v5, .int v6, .int v7, .int v8]) (rest := []) hc k_X9_vol q_568 (c_X9_vol hk8) hP hS rfl hl (Nat.le_of_ble_eq_true rfl) dX9_volBy_50 (Nat.le_of_ble_eq_true rfl) (Nat.le_of_ble_eq_true rfl) rfl (fun H locs hP hS => ?_)
  obtain rfl := Option.some.inj h
  exact hr _ _ _ _ dX9_volBy_53 hP hS
abbrev rm_X9_volBy : Room := { frames := 1, cells := 0, slots := 0, locals := 28 }
theorem c_X9_volBy {l : Launch} {D : va_G} {a : Nat → Nat} {g : Nat → ClassId} {S : St} {v1 : Int32} {v2 : Int32} {v3 : Int32} {v4 : Int32} {v5 : Int32} {v6 : Int32} {v7 : Int32} {v8 : Int32} {z : St × Int64} (h : f_X9_volBy S v1 v2 v3 v4 v5 v6 v7 v8 = some z) : MetL l D (tysWM g) (WM a g) E0 yX9_volBy cX9_volBy 9 (some .long) rm_X9_volBy [.ref (a 0), .int v1, .int v2, .int v3, .int v4, .int v5, .int v6, .int v7, .int v8] S z := mk_l (WM_same a g) (by decide) z (Nat.le_of_ble_eq_true rfl) (fun p e s m args below meth c A Q hc hE hr => t_X9_volBy hc hr S v1 v2 v3 v4 v5 v6 v7 v8 h)
theorem k_X9_volBy : CalV RX9 yX9_volBy cX9_volBy 9 (some .long) rm_X9_volBy 8 := ⟨q_565, q_566, q_5, q_567, by decide +kernel, rfl, rfl⟩
set_option maxHeartbeats 4000000 in
set_option maxRecDepth 100000 in
theorem t_X9_turnOf {z : St × Int64} (hc : Cx p R s m args c D (tysWM g) A (WM a g) cX9_turnOf 4 RX9 2 56) (hr : Rtl p l e R s m args below meth c Q D A (WM a g) cX9_turnOf z) : ∀ (S : St) (v1 : Int32), f_X9_turnOf S v1 = some z → Go p l e R s m args below meth c Q D A (WM a g) 4 S 0 [(0, .ref (a 0)), (1, .int v1)] [] := by
  obtain ⟨⟨hx, hb, hml, hown, hts⟩, -, -, -, hnf, hno⟩ := id hc
  intro S v1 h H locs ls hP hS hl
  rw [f_X9_turnOf] at h
  replace hl : lv_has ls 4 [(0, .ref (a 0)), (1, .int v1)] := hl
  refine lv_aload_n hx hb dX9_turnOf_0 rfl (lv_at hl 0 rfl) ?_
  refine gfWM_HiddenEdgesModel_cornerOf hc hP q_102 dX9_turnOf_1 ?_
  refine lv_iconst (v := 3) hx hb dX9_turnOf_4 (by decide) ?_
  refine lv_iload_n hx hb dX9_turnOf_5 rfl (lv_at hl 1 rfl) ?_
  refine lv_imul hx hb dX9_turnOf_6 ?_
  obtain ⟨h1, h⟩ := chk_at h
  refine alWM_HiddenEdgesModel_cornerOf hc hP h1 dX9_turnOf_7 ?_
  refine lv_topi (fun x2 ex2 => ?_)
  replace h := olet_at ex2 h
  refine lv_istore_n (lv' := [(2, .int x2), (0, .ref (a 0)), (1, .int v1)]) hx hb dX9_turnOf_8 rfl hl (by decide) rfl (fun ls hl => ?_)
  refine lv_aload_n hx hb dX9_turnOf_9 rfl (lv_at hl 1 rfl) ?_
  refine gfWM_HiddenEdgesModel_cornerOf hc hP q_102 dX9_turnOf_10 ?_
  refine lv_iconst (v := 3) hx hb dX9_turnOf_13 (by decide) ?_
  refine lv_iload_n hx hb dX9_turnOf_14 rfl (lv_at hl 2 rfl) ?_
  refine lv_imul hx hb dX9_turnOf_15 ?_
  refine lv_iconst (v := 2) hx hb dX9_turnOf_16 (by decide) ?_
  refine lv_iadd hx hb dX9_turnOf_17 ?_
  obtain ⟨h3, h⟩ := chk_at h
  refine alWM_HiddenEdgesModel_cornerOf hc hP h3 dX9_turnOf_18 ?_
  refine lv_topi (fun x4 ex4 => ?_)
  replace h := olet_at ex4 h
  refine lv_istore_n (lv' := [(3, .int x4), (2, .int x2), (0, .ref (a 0)), (1, .int v1)]) hx hb dX9_turnOf_19 rfl hl (by decide) rfl (fun ls hl => ?_)
  refine lv_aload_n hx hb dX9_turnOf_20 rfl (lv_at hl 2 rfl) ?_
  refine lv_iload_n hx hb dX9_turnOf_21 rfl (lv_at hl 1 rfl) ?_
  refine lv_aload_n hx hb dX9_turnOf_22 rfl (lv_at hl 2 rfl) ?_
  refine gfWM_HiddenEdgesModel_cornerOf hc hP q_102 dX9_turnOf_23 ?_
  refine lv_iconst (v := 3) hx hb dX9_turnOf_26 (by decide) ?_
  refine lv_iload_n hx hb dX9_turnOf_27 rfl (lv_at hl 3 rfl) ?_
  refine lv_imul hx hb dX9_turnOf_28 ?_
  refine lv_iconst (v := 1) hx hb dX9_turnOf_29 (by decide) ?_
  refine lv_iadd hx hb dX9_turnOf_30 ?_
  obtain ⟨h5, h⟩ := chk_at h
  refine alWM_HiddenEdgesModel_cornerOf hc hP h5 dX9_turnOf_31 ?_
  refine lv_aload_n hx hb dX9_turnOf_32 rfl (lv_at hl 2 rfl) ?_
  refine gfWM_HiddenEdgesModel_xOf hc hP q_99 dX9_turnOf_33 ?_
  refine lv_iload_n hx hb dX9_turnOf_36 rfl (lv_at hl 0 rfl) ?_
  obtain ⟨h6, h⟩ := chk_at h
  refine alWM_HiddenEdgesModel_xOf hc hP h6 dX9_turnOf_37 ?_
  refine lv_aload_n hx hb dX9_turnOf_38 rfl (lv_at hl 2 rfl) ?_
  refine gfWM_HiddenEdgesModel_xOf hc hP q_99 dX9_turnOf_39 ?_
  refine lv_iload_n hx hb dX9_turnOf_42 rfl (lv_at hl 1 rfl) ?_
  obtain ⟨h7, h⟩ := chk_at h
  refine alWM_HiddenEdgesModel_xOf hc hP h7 dX9_turnOf_43 ?_
  refine lv_isub hx hb dX9_turnOf_44 ?_
  refine lv_aload_n hx hb dX9_turnOf_45 rfl (lv_at hl 2 rfl) ?_
  refine gfWM_HiddenEdgesModel_yOf hc hP q_100 dX9_turnOf_46 ?_
  refine lv_iload_n hx hb dX9_turnOf_49 rfl (lv_at hl 0 rfl) ?_
  obtain ⟨h8, h⟩ := chk_at h
  refine alWM_HiddenEdgesModel_yOf hc hP h8 dX9_turnOf_50 ?_
  refine lv_aload_n hx hb dX9_turnOf_51 rfl (lv_at hl 2 rfl) ?_
  refine gfWM_HiddenEdgesModel_yOf hc hP q_100 dX9_turnOf_52 ?_
  refine lv_iload_n hx hb dX9_turnOf_55 rfl (lv_at hl 1 rfl) ?_
  obtain ⟨h9, h⟩ := chk_at h
  refine alWM_HiddenEdgesModel_yOf hc hP h9 dX9_turnOf_56 ?_
  refine lv_isub hx hb dX9_turnOf_57 ?_
  refine lv_aload_n hx hb dX9_turnOf_58 rfl (lv_at hl 2 rfl) ?_
  refine gfWM_HiddenEdgesModel_zOf hc hP q_101 dX9_turnOf_59 ?_
  refine lv_iload_n hx hb dX9_turnOf_62 rfl (lv_at hl 0 rfl) ?_
  obtain ⟨h10, h⟩ := chk_at h
  refine alWM_HiddenEdgesModel_zOf hc hP h10 dX9_turnOf_63 ?_
  refine lv_aload_n hx hb dX9_turnOf_64 rfl (lv_at hl 2 rfl) ?_
  refine gfWM_HiddenEdgesModel_zOf hc hP q_101 dX9_turnOf_65 ?_
  refine lv_iload_n hx hb dX9_turnOf_68 rfl (lv_at hl 1 rfl) ?_
  obtain ⟨h11, h⟩ := chk_at h
  refine alWM_HiddenEdgesModel_zOf hc hP h11 dX9_turnOf_69 ?_
  refine lv_isub hx hb dX9_turnOf_70 ?_
  refine lv_aload_n hx hb dX9_turnOf_71 rfl (lv_at hl 2 rfl) ?_
  refine gfWM_HiddenEdgesModel_dx hc hP q_302 dX9_turnOf_72 ?_
  refine lv_aload_n hx hb dX9_turnOf_75 rfl (lv_at hl 2 rfl) ?_
  refine gfWM_HiddenEdgesModel_dy hc hP q_303 dX9_turnOf_76 ?_
  refine lv_aload_n hx hb dX9_turnOf_79 rfl (lv_at hl 2 rfl) ?_
  refine gfWM_HiddenEdgesModel_dz hc hP q_105 dX9_turnOf_80 ?_
  obtain ⟨S12, x14, hk13, h⟩ := ob2_at h
  refine cl_Vl (As := [.int x2, .int (ga S 3 ((((3 : Int32) * v1) + (1 : Int32))).toNatClampNeg), .int ((ga S 0 (x4).toNatClampNeg) - (ga S 0 (x2).toNatClampNeg)), .int ((ga S 1 (x4).toNatClampNeg) - (ga S 1 (x2).toNatClampNeg)), .int ((ga S 2 (x4).toNatClampNeg) - (ga S 2 (x2).toNatClampNeg)), .int (gi S 3), .int (gi S 4), .int (gi S 5)]) (rest := []) hc k_X9_volBy q_564 (c_X9_volBy hk13) hP hS (WM_0 a g S) rfl rfl rfl hl (Nat.le_of_ble_eq_true rfl) dX9_turnOf_83 (Nat.le_of_ble_eq_true rfl) (Nat.le_of_ble_eq_true rfl) rfl (fun H locs hP hS => ?_)
  obtain rfl := Option.some.inj h
  exact hr _ _ _ _ dX9_turnOf_86 hP hS
abbrev rm_X9_turnOf : Room := { frames := 2, cells := 0, slots := 0, locals := 56 }
theorem c_X9_turnOf {l : Launch} {D : va_G} {a : Nat → Nat} {g : Nat → ClassId} {S : St} {v1 : Int32} {z : St × Int64} (h : f_X9_turnOf S v1 = some z) : MetL l D (tysWM g) (WM a g) E0 yX9_turnOf cX9_turnOf 4 (some .long) rm_X9_turnOf [.ref (a 0), .int v1] S z := mk_l (WM_same a g) (by decide) z (Nat.le_of_ble_eq_true rfl) (fun p e s m args below meth c A Q hc hE hr => t_X9_turnOf hc hr S v1 h)
theorem k_X9_turnOf : CalV RX9 yX9_turnOf cX9_turnOf 4 (some .long) rm_X9_turnOf 1 := ⟨q_572, q_573, q_5, q_574, by decide +kernel, rfl, rfl⟩
set_option maxHeartbeats 4000000 in
set_option maxRecDepth 100000 in
theorem t_X9_sortBy_p224 {z : St × Int32} (hc : Cx p R s m args c D (tysWM g) A (WM a g) cX9_sortBy 10 RX9 3 79) (hr : Rti p l e R s m args below meth c Q D A (WM a g) cX9_sortBy z) : ∀ (S : St) (v5 : Int32) (s0 : Int32), f_X9_sortBy_p224 S v5 s0 = some z → Go p l e R s m args below meth c Q D A (WM a g) 10 S 224 [(0, .ref (a 0)), (5, .int v5)] [.int s0] := by
  obtain ⟨⟨hx, hb, hml, hown, hts⟩, -, -, -, hnf, hno⟩ := id hc
  intro S v5 s0 h H locs ls hP hS hl
  rw [f_X9_sortBy_p224] at h
  refine lv_aload_n hx hb dX9_sortBy_224 rfl (lv_at hl 0 rfl) ?_
  refine lv_iload hx hb dX9_sortBy_225 (lv_at hl 1 rfl) ?_
  obtain ⟨S1, x3, hk2, h⟩ := ob2_at h
  refine cl_Vl (As := [.int v5]) (rest := [.int s0]) hc k_X9_turnOf q_571 (c_X9_turnOf hk2) hP hS (WM_0 a g S) rfl rfl rfl hl (Nat.le_of_ble_eq_true rfl) dX9_sortBy_227 (Nat.le_of_ble_eq_true rfl) (Nat.le_of_ble_eq_true rfl) rfl (fun H locs hP hS => ?_)
  refine lv_lconst (v := 0) hx hb dX9_sortBy_230 (by decide) ?_
  refine W.lcmp hx hb dX9_sortBy_231 ?_
  refine lv_if_le (tgt := 239) hx hb dX9_sortBy_232 (by decide) (fun hq => ?_) (fun hq => ?_)
  · replace h := if_yes hq h
    refine lv_iconst (v := 0) hx hb dX9_sortBy_239 (by decide) ?_
    refine lv_icmp_eq (tgt := 247) hx hb dX9_sortBy_240 (by decide) (fun hq => ?_) (fun hq => ?_)
    · replace h := if_yes hq h
      refine lv_iconst (v := 4) hx hb dX9_sortBy_247 (by decide) ?_
      obtain rfl := Option.some.inj h
      exact hr _ _ _ _ dX9_sortBy_248 hP hS
    · replace h := if_no hq h
      refine lv_iconst (v := 3) hx hb dX9_sortBy_243 (by decide) ?_
      refine lv_goto (tgt := 248) hx hb dX9_sortBy_244 (by decide) ?_
      obtain rfl := Option.some.inj h
      exact hr _ _ _ _ dX9_sortBy_248 hP hS
  · replace h := if_no hq h
    refine lv_iconst (v := 1) hx hb dX9_sortBy_235 (by decide) ?_
    refine lv_goto (tgt := 240) hx hb dX9_sortBy_236 (by decide) ?_
    refine lv_icmp_eq (tgt := 247) hx hb dX9_sortBy_240 (by decide) (fun hq => ?_) (fun hq => ?_)
    · replace h := if_yes hq h
      refine lv_iconst (v := 4) hx hb dX9_sortBy_247 (by decide) ?_
      obtain rfl := Option.some.inj h
      exact hr _ _ _ _ dX9_sortBy_248 hP hS
    · replace h := if_no hq h
      refine lv_iconst (v := 3) hx hb dX9_sortBy_243 (by decide) ?_
      refine lv_goto (tgt := 248) hx hb dX9_sortBy_244 (by decide) ?_
      obtain rfl := Option.some.inj h
      exact hr _ _ _ _ dX9_sortBy_248 hP hS
set_option maxHeartbeats 4000000 in
set_option maxRecDepth 100000 in
theorem t_X9_sortBy_p32 {z : St × Int32} (hc : Cx p R s m args c D (tysWM g) A (WM a g) cX9_sortBy 10 RX9 3 79) (hr : Rti p l e R s m args below meth c Q D A (WM a g) cX9_sortBy z) : ∀ (fu : Nat) (S : St) (v1 : Int32) (v2 : Int32) (v4 : Int32) (v5 : Int32) (v6 : Int32), f_X9_sortBy_p32 fu S v1 v2 v4 v5 v6 = some z → Go p l e R s m args below meth c Q D A (WM a g) 10 S 32 [(0, .ref (a 0)), (1, .int v1), (2, .int v2), (4, .int v4), (5, .int v5), (6, .int v6)] [] := by
  obtain ⟨⟨hx, hb, hml, hown, hts⟩, -, -, -, hnf, hno⟩ := id hc
  intro fu
  induction fu with
  | zero =>
    intro S v1 v2 v4 v5 v6 h
    rw [f_X9_sortBy_p32] at h
    cases h
  | succ fu ih =>
    intro S v1 v2 v4 v5 v6 h H locs ls hP hS hl
    rw [f_X9_sortBy_p32] at h
    refine lv_iload hx hb dX9_sortBy_32 (lv_at hl 5 rfl) ?_
    refine lv_aload_n hx hb dX9_sortBy_34 rfl (lv_at hl 0 rfl) ?_
    refine gfWM_HiddenEdgesModel_faces hc hP q_207 dX9_sortBy_35 ?_
    refine lv_icmp_ge (tgt := 87) hx hb dX9_sortBy_38 (by decide) (fun hq => ?_) (fun hq => ?_)
    · replace h := if_yes hq h
      refine lv_aload_n hx hb dX9_sortBy_87 rfl (lv_at hl 0 rfl) ?_
      refine lv_iload hx hb dX9_sortBy_88 (lv_at hl 3 rfl) ?_
      refine lv_iload_n hx hb dX9_sortBy_90 rfl (lv_at hl 1 rfl) ?_
      refine lv_iload_n hx hb dX9_sortBy_91 rfl (lv_at hl 2 rfl) ?_
      obtain ⟨S1, x3, hk2, h⟩ := ob2_at h
      refine cl_Vi (As := [.int v4, .int v1, .int v2]) (rest := []) hc k_X9_thirdOf q_560 (c_X9_thirdOf hk2) hP hS (WM_0 a g S) rfl rfl rfl hl (Nat.le_of_ble_eq_true rfl) dX9_sortBy_92 (Nat.le_of_ble_eq_true rfl) (Nat.le_of_ble_eq_true rfl) rfl (fun H locs hP hS => ?_)
      refine lv_istore (lv' := [(6, .int x3), (0, .ref (a 0)), (1, .int v1), (2, .int v2), (4, .int v4), (5, .int v5)]) hx hb dX9_sortBy_95 hl (by decide) rfl (fun ls hl => ?_)
      refine lv_aload_n hx hb dX9_sortBy_97 rfl (lv_at hl 1 rfl) ?_
      refine lv_iload hx hb dX9_sortBy_98 (lv_at hl 5 rfl) ?_
      refine lv_iload_n hx hb dX9_sortBy_100 rfl (lv_at hl 2 rfl) ?_
      refine lv_iload_n hx hb dX9_sortBy_101 rfl (lv_at hl 3 rfl) ?_
      obtain ⟨S4, x6, hk5, h⟩ := ob2_at h
      refine cl_Vi (As := [.int v5, .int v1, .int v2]) (rest := []) hc k_X9_thirdOf q_560 (c_X9_thirdOf hk5) hP hS (WM_0 a g S1) rfl rfl rfl hl (Nat.le_of_ble_eq_true rfl) dX9_sortBy_102 (Nat.le_of_ble_eq_true rfl) (Nat.le_of_ble_eq_true rfl) rfl (fun H locs hP hS => ?_)
      refine lv_istore (lv' := [(7, .int x6), (6, .int x3), (0, .ref (a 0)), (1, .int v1), (2, .int v2), (4, .int v4), (5, .int v5)]) hx hb dX9_sortBy_105 hl (by decide) rfl (fun ls hl => ?_)
      refine lv_aload_n hx hb dX9_sortBy_107 rfl (lv_at hl 2 rfl) ?_
      refine lv_iload_n hx hb dX9_sortBy_108 rfl (lv_at hl 3 rfl) ?_
      refine lv_iload_n hx hb dX9_sortBy_109 rfl (lv_at hl 4 rfl) ?_
      refine lv_aload_n hx hb dX9_sortBy_110 rfl (lv_at hl 2 rfl) ?_
      refine gfWM_HiddenEdgesModel_xOf hc hP q_99 dX9_sortBy_111 ?_
      refine lv_iload hx hb dX9_sortBy_114 (lv_at hl 1 rfl) ?_
      obtain ⟨h7, h⟩ := chk_at h
      refine alWM_HiddenEdgesModel_xOf hc hP h7 dX9_sortBy_116 ?_
      refine lv_aload_n hx hb dX9_sortBy_117 rfl (lv_at hl 2 rfl) ?_
      refine gfWM_HiddenEdgesModel_xOf hc hP q_99 dX9_sortBy_118 ?_
      refine lv_iload_n hx hb dX9_sortBy_121 rfl (lv_at hl 3 rfl) ?_
      obtain ⟨h8, h⟩ := chk_at h
      refine alWM_HiddenEdgesModel_xOf hc hP h8 dX9_sortBy_122 ?_
      refine lv_isub hx hb dX9_sortBy_123 ?_
      refine lv_aload_n hx hb dX9_sortBy_124 rfl (lv_at hl 2 rfl) ?_
      refine gfWM_HiddenEdgesModel_yOf hc hP q_100 dX9_sortBy_125 ?_
      refine lv_iload hx hb dX9_sortBy_128 (lv_at hl 1 rfl) ?_
      obtain ⟨h9, h⟩ := chk_at h
      refine alWM_HiddenEdgesModel_yOf hc hP h9 dX9_sortBy_130 ?_
      refine lv_aload_n hx hb dX9_sortBy_131 rfl (lv_at hl 2 rfl) ?_
      refine gfWM_HiddenEdgesModel_yOf hc hP q_100 dX9_sortBy_132 ?_
      refine lv_iload_n hx hb dX9_sortBy_135 rfl (lv_at hl 3 rfl) ?_
      obtain ⟨h10, h⟩ := chk_at h
      refine alWM_HiddenEdgesModel_yOf hc hP h10 dX9_sortBy_136 ?_
      refine lv_isub hx hb dX9_sortBy_137 ?_
      refine lv_aload_n hx hb dX9_sortBy_138 rfl (lv_at hl 2 rfl) ?_
      refine gfWM_HiddenEdgesModel_zOf hc hP q_101 dX9_sortBy_139 ?_
      refine lv_iload hx hb dX9_sortBy_142 (lv_at hl 1 rfl) ?_
      obtain ⟨h11, h⟩ := chk_at h
      refine alWM_HiddenEdgesModel_zOf hc hP h11 dX9_sortBy_144 ?_
      refine lv_aload_n hx hb dX9_sortBy_145 rfl (lv_at hl 2 rfl) ?_
      refine gfWM_HiddenEdgesModel_zOf hc hP q_101 dX9_sortBy_146 ?_
      refine lv_iload_n hx hb dX9_sortBy_149 rfl (lv_at hl 3 rfl) ?_
      obtain ⟨h12, h⟩ := chk_at h
      refine alWM_HiddenEdgesModel_zOf hc hP h12 dX9_sortBy_150 ?_
      refine lv_isub hx hb dX9_sortBy_151 ?_
      refine lv_aload_n hx hb dX9_sortBy_152 rfl (lv_at hl 2 rfl) ?_
      refine gfWM_HiddenEdgesModel_xOf hc hP q_99 dX9_sortBy_153 ?_
      refine lv_iload hx hb dX9_sortBy_156 (lv_at hl 0 rfl) ?_
      obtain ⟨h13, h⟩ := chk_at h
      refine alWM_HiddenEdgesModel_xOf hc hP h13 dX9_sortBy_158 ?_
      refine lv_aload_n hx hb dX9_sortBy_159 rfl (lv_at hl 2 rfl) ?_
      refine gfWM_HiddenEdgesModel_xOf hc hP q_99 dX9_sortBy_160 ?_
      refine lv_iload_n hx hb dX9_sortBy_163 rfl (lv_at hl 3 rfl) ?_
      obtain ⟨h14, h⟩ := chk_at h
      refine alWM_HiddenEdgesModel_xOf hc hP h14 dX9_sortBy_164 ?_
      refine lv_isub hx hb dX9_sortBy_165 ?_
      refine lv_aload_n hx hb dX9_sortBy_166 rfl (lv_at hl 2 rfl) ?_
      refine gfWM_HiddenEdgesModel_yOf hc hP q_100 dX9_sortBy_167 ?_
      refine lv_iload hx hb dX9_sortBy_170 (lv_at hl 0 rfl) ?_
      obtain ⟨h15, h⟩ := chk_at h
      refine alWM_HiddenEdgesModel_yOf hc hP h15 dX9_sortBy_172 ?_
      refine lv_aload_n hx hb dX9_sortBy_173 rfl (lv_at hl 2 rfl) ?_
      refine gfWM_HiddenEdgesModel_yOf hc hP q_100 dX9_sortBy_174 ?_
      refine lv_iload_n hx hb dX9_sortBy_177 rfl (lv_at hl 3 rfl) ?_
      obtain ⟨h16, h⟩ := chk_at h
      refine alWM_HiddenEdgesModel_yOf hc hP h16 dX9_sortBy_178 ?_
      refine lv_isub hx hb dX9_sortBy_179 ?_
      refine lv_aload_n hx hb dX9_sortBy_180 rfl (lv_at hl 2 rfl) ?_
      refine gfWM_HiddenEdgesModel_zOf hc hP q_101 dX9_sortBy_181 ?_
      refine lv_iload hx hb dX9_sortBy_184 (lv_at hl 0 rfl) ?_
      obtain ⟨h17, h⟩ := chk_at h
      refine alWM_HiddenEdgesModel_zOf hc hP h17 dX9_sortBy_186 ?_
      refine lv_aload_n hx hb dX9_sortBy_187 rfl (lv_at hl 2 rfl) ?_
      refine gfWM_HiddenEdgesModel_zOf hc hP q_101 dX9_sortBy_188 ?_
      refine lv_iload_n hx hb dX9_sortBy_191 rfl (lv_at hl 3 rfl) ?_
      obtain ⟨h18, h⟩ := chk_at h
      refine alWM_HiddenEdgesModel_zOf hc hP h18 dX9_sortBy_192 ?_
      refine lv_isub hx hb dX9_sortBy_193 ?_
      obtain ⟨S19, x21, hk20, h⟩ := ob2_at h
      refine cl_Vl (As := [.int v1, .int v2, .int ((ga S4 0 (x3).toNatClampNeg) - (ga S4 0 (v1).toNatClampNeg)), .int ((ga S4 1 (x3).toNatClampNeg) - (ga S4 1 (v1).toNatClampNeg)), .int ((ga S4 2 (x3).toNatClampNeg) - (ga S4 2 (v1).toNatClampNeg)), .int ((ga S4 0 (x6).toNatClampNeg) - (ga S4 0 (v1).toNatClampNeg)), .int ((ga S4 1 (x6).toNatClampNeg) - (ga S4 1 (v1).toNatClampNeg)), .int ((ga S4 2 (x6).toNatClampNeg) - (ga S4 2 (v1).toNatClampNeg))]) (rest := []) hc k_X9_volBy q_564 (c_X9_volBy hk20) hP hS (WM_0 a g S4) rfl rfl rfl hl (Nat.le_of_ble_eq_true rfl) dX9_sortBy_194 (Nat.le_of_ble_eq_true rfl) (Nat.le_of_ble_eq_true rfl) rfl (fun H locs hP hS => ?_)
      refine lv_lstore (lv' := [(8, .long x21), (7, .int x6), (6, .int x3), (0, .ref (a 0)), (1, .int v1), (2, .int v2), (4, .int v4), (5, .int v5)]) hx hb dX9_sortBy_197 hl (by decide) rfl (fun ls hl => ?_)
      refine lv_lload hx hb dX9_sortBy_199 (lv_at hl 0 rfl) ?_
      refine lv_lconst (v := 0) hx hb dX9_sortBy_201 (by decide) ?_
      refine W.lcmp hx hb dX9_sortBy_202 ?_
      refine lv_if_ne (tgt := 208) hx hb dX9_sortBy_203 (by decide) (fun hq => ?_) (fun hq => ?_)
      · replace h := if_no hq h
        refine lv_aload_n hx hb dX9_sortBy_208 rfl (lv_at hl 3 rfl) ?_
        refine lv_iload hx hb dX9_sortBy_209 (lv_at hl 6 rfl) ?_
        obtain ⟨S22, x24, hk23, h⟩ := ob2_at h
        refine cl_Vl (As := [.int v4]) (rest := []) hc k_X9_turnOf q_571 (c_X9_turnOf hk23) hP hS (WM_0 a g S19) rfl rfl rfl hl (Nat.le_of_ble_eq_true rfl) dX9_sortBy_211 (Nat.le_of_ble_eq_true rfl) (Nat.le_of_ble_eq_true rfl) rfl (fun H locs hP hS => ?_)
        refine lv_lconst (v := 0) hx hb dX9_sortBy_214 (by decide) ?_
        refine W.lcmp hx hb dX9_sortBy_215 ?_
        refine lv_if_le (tgt := 223) hx hb dX9_sortBy_216 (by decide) (fun hq => ?_) (fun hq => ?_)
        · replace h := if_yes hq h
          refine lv_iconst (v := 0) hx hb dX9_sortBy_223 (by decide) ?_
          exact t_X9_sortBy_p224 hc hr S22 v5 (0 : Int32) h H locs ls hP hS (lv_sub hl [3, 7] rfl)
        · replace h := if_no hq h
          refine lv_iconst (v := 1) hx hb dX9_sortBy_219 (by decide) ?_
          refine lv_goto (tgt := 224) hx hb dX9_sortBy_220 (by decide) ?_
          exact t_X9_sortBy_p224 hc hr S22 v5 (1 : Int32) h H locs ls hP hS (lv_sub hl [3, 7] rfl)
      · replace h := if_yes hq h
        refine lv_iconst (v := 2) hx hb dX9_sortBy_206 (by decide) ?_
        obtain rfl := Option.some.inj h
        exact hr _ _ _ _ dX9_sortBy_207 hP hS
    · replace h := if_no hq h
      refine lv_aload_n hx hb dX9_sortBy_41 rfl (lv_at hl 0 rfl) ?_
      refine lv_iload hx hb dX9_sortBy_42 (lv_at hl 5 rfl) ?_
      refine lv_iload_n hx hb dX9_sortBy_44 rfl (lv_at hl 1 rfl) ?_
      obtain ⟨S25, x27, hk26, h⟩ := ob2_at h
      refine cl_Vi (As := [.int v6, .int v1]) (rest := []) hc k_X9_hasCorner q_220 (c_X9_hasCorner hk26) hP hS (WM_0 a g S) rfl rfl rfl hl (Nat.le_of_ble_eq_true rfl) dX9_sortBy_45 (Nat.le_of_ble_eq_true rfl) (Nat.le_of_ble_eq_true rfl) rfl (fun H locs hP hS => ?_)
      refine lv_if_eq (tgt := 81) hx hb dX9_sortBy_48 (by decide) (fun hq => ?_) (fun hq => ?_)
      · replace h := if_yes hq h
        obtain ⟨x28, ex28⟩ : ∃ y : Int32, y = v6 + (1 : Int32) := ⟨_, rfl⟩
        replace h := olet_at ex28 h
        refine lv_iinc (v := x28) (lv' := [(6, .int x28), (0, .ref (a 0)), (1, .int v1), (2, .int v2), (4, .int v4), (5, .int v5)]) hx hb dX9_sortBy_81 hl (k := 5) rfl (by rw [ex28]; rfl) (by decide) rfl (fun ls hl => ?_)
        refine lv_goto (tgt := 32) hx hb dX9_sortBy_84 (by decide) ?_
        exact ih S25 v1 v2 v4 v5 x28 h H locs ls hP hS (lv_sub hl [1, 2, 3, 4, 5, 0] rfl)
      · replace h := if_no hq h
        refine lv_aload_n hx hb dX9_sortBy_51 rfl (lv_at hl 0 rfl) ?_
        refine lv_iload hx hb dX9_sortBy_52 (lv_at hl 5 rfl) ?_
        refine lv_iload_n hx hb dX9_sortBy_54 rfl (lv_at hl 2 rfl) ?_
        obtain ⟨S29, x31, hk30, h⟩ := ob2_at h
        refine cl_Vi (As := [.int v6, .int v2]) (rest := []) hc k_X9_hasCorner q_220 (c_X9_hasCorner hk30) hP hS (WM_0 a g S25) rfl rfl rfl hl (Nat.le_of_ble_eq_true rfl) dX9_sortBy_55 (Nat.le_of_ble_eq_true rfl) (Nat.le_of_ble_eq_true rfl) rfl (fun H locs hP hS => ?_)
        refine lv_if_eq (tgt := 81) hx hb dX9_sortBy_58 (by decide) (fun hq => ?_) (fun hq => ?_)
        · replace h := if_yes hq h
          obtain ⟨x32, ex32⟩ : ∃ y : Int32, y = v6 + (1 : Int32) := ⟨_, rfl⟩
          replace h := olet_at ex32 h
          refine lv_iinc (v := x32) (lv' := [(6, .int x32), (0, .ref (a 0)), (1, .int v1), (2, .int v2), (4, .int v4), (5, .int v5)]) hx hb dX9_sortBy_81 hl (k := 5) rfl (by rw [ex32]; rfl) (by decide) rfl (fun ls hl => ?_)
          refine lv_goto (tgt := 32) hx hb dX9_sortBy_84 (by decide) ?_
          exact ih S29 v1 v2 v4 v5 x32 h H locs ls hP hS (lv_sub hl [1, 2, 3, 4, 5, 0] rfl)
        · replace h := if_no hq h
          refine lv_iload hx hb dX9_sortBy_61 (lv_at hl 3 rfl) ?_
          refine lv_bipush (v := -9) hx hb dX9_sortBy_63 (by decide) ?_
          refine lv_icmp_ne (tgt := 73) hx hb dX9_sortBy_65 (by decide) (fun hq => ?_) (fun hq => ?_)
          · replace h := if_no hq h
            refine lv_iload hx hb dX9_sortBy_73 (lv_at hl 3 rfl) ?_
            refine lv_istore (lv' := [(4, .int v4), (0, .ref (a 0)), (1, .int v1), (2, .int v2), (5, .int v5), (6, .int v6)]) hx hb dX9_sortBy_75 hl (by decide) rfl (fun ls hl => ?_)
            refine lv_iload hx hb dX9_sortBy_77 (lv_at hl 5 rfl) ?_
            refine lv_istore (lv' := [(5, .int v6), (4, .int v4), (0, .ref (a 0)), (1, .int v1), (2, .int v2), (6, .int v6)]) hx hb dX9_sortBy_79 hl (by decide) rfl (fun ls hl => ?_)
            obtain ⟨x33, ex33⟩ : ∃ y : Int32, y = v6 + (1 : Int32) := ⟨_, rfl⟩
            replace h := olet_at ex33 h
            refine lv_iinc (v := x33) (lv' := [(6, .int x33), (5, .int v6), (4, .int v4), (0, .ref (a 0)), (1, .int v1), (2, .int v2)]) hx hb dX9_sortBy_81 hl (k := 5) rfl (by rw [ex33]; rfl) (by decide) rfl (fun ls hl => ?_)
            refine lv_goto (tgt := 32) hx hb dX9_sortBy_84 (by decide) ?_
            exact ih S29 v1 v2 v4 v6 x33 h H locs ls hP hS (lv_sub hl [3, 4, 5, 2, 1, 0] rfl)
          · replace h := if_yes hq h
            refine lv_iload hx hb dX9_sortBy_68 (lv_at hl 5 rfl) ?_
            refine lv_goto (tgt := 75) hx hb dX9_sortBy_70 (by decide) ?_
            refine lv_istore (lv' := [(4, .int v6), (0, .ref (a 0)), (1, .int v1), (2, .int v2), (5, .int v5), (6, .int v6)]) hx hb dX9_sortBy_75 hl (by decide) rfl (fun ls hl => ?_)
            refine lv_iload hx hb dX9_sortBy_77 (lv_at hl 5 rfl) ?_
            refine lv_istore (lv' := [(5, .int v6), (4, .int v6), (0, .ref (a 0)), (1, .int v1), (2, .int v2), (6, .int v6)]) hx hb dX9_sortBy_79 hl (by decide) rfl (fun ls hl => ?_)
            obtain ⟨x34, ex34⟩ : ∃ y : Int32, y = v6 + (1 : Int32) := ⟨_, rfl⟩
            replace h := olet_at ex34 h
            refine lv_iinc (v := x34) (lv' := [(6, .int x34), (5, .int v6), (4, .int v6), (0, .ref (a 0)), (1, .int v1), (2, .int v2)]) hx hb dX9_sortBy_81 hl (k := 5) rfl (by rw [ex34]; rfl) (by decide) rfl (fun ls hl => ?_)
            refine lv_goto (tgt := 32) hx hb dX9_sortBy_84 (by decide) ?_
            exact ih S29 v1 v2 v6 v6 x34 h H locs ls hP hS (lv_sub hl [3, 4, 5, 2, 1, 0] rfl)
set_option maxHeartbeats 4000000 in
set_option maxRecDepth 100000 in
theorem t_X9_sortBy {z : St × Int32} (hc : Cx p R s m args c D (tysWM g) A (WM a g) cX9_sortBy 10 RX9 3 79) (hr : Rti p l e R s m args below meth c Q D A (WM a g) cX9_sortBy z) : ∀ (S : St) (v1 : Int32) (v2 : Int32) (v3 : Int32), f_X9_sortBy S v1 v2 v3 = some z → Go p l e R s m args below meth c Q D A (WM a g) 10 S 0 [(0, .ref (a 0)), (1, .int v1), (2, .int v2), (3, .int v3)] [] := by
  obtain ⟨⟨hx, hb, hml, hown, hts⟩, -, -, -, hnf, hno⟩ := id hc
  intro S v1 v2 v3 h H locs ls hP hS hl
  rw [f_X9_sortBy] at h
  replace hl : lv_has ls 10 [(0, .ref (a 0)), (1, .int v1), (2, .int v2), (3, .int v3)] := hl
  refine lv_iload_n hx hb dX9_sortBy_0 rfl (lv_at hl 3 rfl) ?_
  refine lv_iconst (v := 2) hx hb dX9_sortBy_1 (by decide) ?_
  refine lv_icmp_lt (tgt := 10) hx hb dX9_sortBy_2 (by decide) (fun hq => ?_) (fun hq => ?_)
  · replace h := if_yes hq h
    refine lv_iload_n hx hb dX9_sortBy_10 rfl (lv_at hl 3 rfl) ?_
    refine lv_iconst (v := 2) hx hb dX9_sortBy_11 (by decide) ?_
    refine lv_icmp_ge (tgt := 19) hx hb dX9_sortBy_12 (by decide) (fun hq => ?_) (fun hq => ?_)
    · replace h := if_yes hq h
      refine lv_iconst (v := 5) hx hb dX9_sortBy_19 (by decide) ?_
      obtain rfl := Option.some.inj h
      exact hr _ _ _ _ dX9_sortBy_20 hP hS
    · replace h := if_no hq h
      refine lv_iload_n hx hb dX9_sortBy_15 rfl (lv_at hl 3 rfl) ?_
      refine lv_goto (tgt := 20) hx hb dX9_sortBy_16 (by decide) ?_
      obtain rfl := Option.some.inj h
      exact hr _ _ _ _ dX9_sortBy_20 hP hS
  · replace h := if_no hq h
    refine lv_iload_n hx hb dX9_sortBy_5 rfl (lv_at hl 3 rfl) ?_
    refine lv_iconst (v := 2) hx hb dX9_sortBy_6 (by decide) ?_
    refine lv_icmp_le (tgt := 21) hx hb dX9_sortBy_7 (by decide) (fun hq => ?_) (fun hq => ?_)
    · replace h := if_yes hq h
      refine lv_bipush (v := -9) hx hb dX9_sortBy_21 (by decide) ?_
      refine lv_istore (lv' := [(4, .int (-9 : Int32)), (0, .ref (a 0)), (1, .int v1), (2, .int v2), (3, .int v3)]) hx hb dX9_sortBy_23 hl (by decide) rfl (fun ls hl => ?_)
      refine lv_bipush (v := -9) hx hb dX9_sortBy_25 (by decide) ?_
      refine lv_istore (lv' := [(5, .int (-9 : Int32)), (4, .int (-9 : Int32)), (0, .ref (a 0)), (1, .int v1), (2, .int v2), (3, .int v3)]) hx hb dX9_sortBy_27 hl (by decide) rfl (fun ls hl => ?_)
      refine lv_iconst (v := 0) hx hb dX9_sortBy_29 (by decide) ?_
      refine lv_istore (lv' := [(6, .int (0 : Int32)), (5, .int (-9 : Int32)), (4, .int (-9 : Int32)), (0, .ref (a 0)), (1, .int v1), (2, .int v2), (3, .int v3)]) hx hb dX9_sortBy_30 hl (by decide) rfl (fun ls hl => ?_)
      exact t_X9_sortBy_p32 hc hr FU S v1 v2 (-9 : Int32) (-9 : Int32) (0 : Int32) h H locs ls hP hS (lv_sub hl [3, 4, 5, 2, 1, 0] rfl)
    · replace h := if_no hq h
      refine lv_iload_n hx hb dX9_sortBy_10 rfl (lv_at hl 3 rfl) ?_
      refine lv_iconst (v := 2) hx hb dX9_sortBy_11 (by decide) ?_
      refine lv_icmp_ge (tgt := 19) hx hb dX9_sortBy_12 (by decide) (fun hq => ?_) (fun hq => ?_)
      · replace h := if_yes hq h
        refine lv_iconst (v := 5) hx hb dX9_sortBy_19 (by decide) ?_
        obtain rfl := Option.some.inj h
        exact hr _ _ _ _ dX9_sortBy_20 hP hS
      · replace h := if_no hq h
        refine lv_iload_n hx hb dX9_sortBy_15 rfl (lv_at hl 3 rfl) ?_
        refine lv_goto (tgt := 20) hx hb dX9_sortBy_16 (by decide) ?_
        obtain rfl := Option.some.inj h
        exact hr _ _ _ _ dX9_sortBy_20 hP hS
abbrev rm_X9_sortBy : Room := { frames := 3, cells := 0, slots := 0, locals := 79 }
theorem c_X9_sortBy {l : Launch} {D : va_G} {a : Nat → Nat} {g : Nat → ClassId} {S : St} {v1 : Int32} {v2 : Int32} {v3 : Int32} {z : St × Int32} (h : f_X9_sortBy S v1 v2 v3 = some z) : MetI l D (tysWM g) (WM a g) E0 yX9_sortBy cX9_sortBy 10 (some .int) rm_X9_sortBy [.ref (a 0), .int v1, .int v2, .int v3] S z := mk_i (WM_same a g) (by decide) z (Nat.le_of_ble_eq_true rfl) (fun p e s m args below meth c A Q hc hE hr => t_X9_sortBy hc hr S v1 v2 v3 h)
theorem k_X9_sortBy : CalV RX9 yX9_sortBy cX9_sortBy 10 (some .int) rm_X9_sortBy 3 := ⟨q_557, q_558, q_5, q_559, by decide +kernel, rfl, rfl⟩
set_option maxHeartbeats 4000000 in
set_option maxRecDepth 100000 in
theorem t_X9_common_p6 {z : St × Int64} (hc : Cx p R s m args c D (tysWM g) A (WM a g) cX9_common 10 RX9 0 0) (hr : Rtl p l e R s m args below meth c Q D A (WM a g) cX9_common z) : ∀ (fu : Nat) (S : St) (v4 : Int64) (v6 : Int64), f_X9_common_p6 fu S v4 v6 = some z → Go p l e R s m args below meth c Q D A (WM a g) 10 S 6 [(4, .long v4), (6, .long v6)] [] := by
  obtain ⟨⟨hx, hb, hml, hown, hts⟩, -, -, -, hnf, hno⟩ := id hc
  intro fu
  induction fu with
  | zero =>
    intro S v4 v6 h
    rw [f_X9_common_p6] at h
    cases h
  | succ fu ih =>
    intro S v4 v6 h H locs ls hP hS hl
    rw [f_X9_common_p6] at h
    refine lv_lload hx hb dX9_common_6 (lv_at hl 1 rfl) ?_
    refine lv_lconst (v := 0) hx hb dX9_common_8 (by decide) ?_
    refine W.lcmp hx hb dX9_common_9 ?_
    refine lv_if_eq (tgt := 31) hx hb dX9_common_10 (by decide) (fun hq => ?_) (fun hq => ?_)
    · replace h := if_yes hq h
      refine lv_lload hx hb dX9_common_31 (lv_at hl 0 rfl) ?_
      obtain rfl := Option.some.inj h
      exact hr _ _ _ _ dX9_common_33 hP hS
    · replace h := if_no hq h
      refine lv_lload hx hb dX9_common_13 (lv_at hl 0 rfl) ?_
      refine lv_lload hx hb dX9_common_15 (lv_at hl 1 rfl) ?_
      obtain ⟨h1, h⟩ := chk_at h
      refine lv_lrem hx hb dX9_common_17 h1 ?_
      refine lv_topl (fun x2 ex2 => ?_)
      replace h := olet_at ex2 h
      refine lv_lstore (lv' := [(8, .long x2), (4, .long v4), (6, .long v6)]) hx hb dX9_common_18 hl (by decide) rfl (fun ls hl => ?_)
      refine lv_lload hx hb dX9_common_20 (lv_at hl 2 rfl) ?_
      refine lv_lstore (lv' := [(4, .long v6), (8, .long x2), (6, .long v6)]) hx hb dX9_common_22 hl (by decide) rfl (fun ls hl => ?_)
      refine lv_lload hx hb dX9_common_24 (lv_at hl 1 rfl) ?_
      refine lv_lstore (lv' := [(6, .long x2), (4, .long v6), (8, .long x2)]) hx hb dX9_common_26 hl (by decide) rfl (fun ls hl => ?_)
      refine lv_goto (tgt := 6) hx hb dX9_common_28 (by decide) ?_
      exact ih S v6 x2 h H locs ls hP hS (lv_sub hl [1, 0] rfl)
set_option maxHeartbeats 4000000 in
set_option maxRecDepth 100000 in
theorem t_X9_common {z : St × Int64} (hc : Cx p R s m args c D (tysWM g) A (WM a g) cX9_common 10 RX9 0 0) (hr : Rtl p l e R s m args below meth c Q D A (WM a g) cX9_common z) : ∀ (S : St) (v0 : Int64) (v2 : Int64), f_X9_common S v0 v2 = some z → Go p l e R s m args below meth c Q D A (WM a g) 10 S 0 [(0, .long v0), (2, .long v2)] [] := by
  obtain ⟨⟨hx, hb, hml, hown, hts⟩, -, -, -, hnf, hno⟩ := id hc
  intro S v0 v2 h H locs ls hP hS hl
  rw [f_X9_common] at h
  replace hl : lv_has ls 10 [(0, .long v0), (2, .long v2)] := hl
  refine lv_lload_n hx hb dX9_common_0 rfl (lv_at hl 0 rfl) ?_
  refine lv_lstore (lv' := [(4, .long v0), (0, .long v0), (2, .long v2)]) hx hb dX9_common_1 hl (by decide) rfl (fun ls hl => ?_)
  refine lv_lload_n hx hb dX9_common_3 rfl (lv_at hl 2 rfl) ?_
  refine lv_lstore (lv' := [(6, .long v2), (4, .long v0), (0, .long v0), (2, .long v2)]) hx hb dX9_common_4 hl (by decide) rfl (fun ls hl => ?_)
  exact t_X9_common_p6 hc hr FU S v0 v2 h H locs ls hP hS (lv_sub hl [1, 0] rfl)
abbrev rm_X9_common : Room := { frames := 0, cells := 0, slots := 0, locals := 0 }
theorem c_X9_common {l : Launch} {D : va_G} {a : Nat → Nat} {g : Nat → ClassId} {S : St} {v0 : Int64} {v2 : Int64} {z : St × Int64} (h : f_X9_common S v0 v2 = some z) : MetL l D (tysWM g) (WM a g) E0 yX9_common cX9_common 10 (some .long) rm_X9_common [.long v0, .long v2] S z := mk_l (WM_same a g) (by decide) z (Nat.le_of_ble_eq_true rfl) (fun p e s m args below meth c A Q hc hE hr => t_X9_common hc hr S v0 v2 h)
theorem k_X9_common : CalS yX9_common cX9_common 10 (some .long) rm_X9_common 2 := ⟨q_580, q_5, q_581, by decide +kernel, rfl, rfl⟩
set_option maxHeartbeats 4000000 in
set_option maxRecDepth 100000 in
theorem t_X9_cuts_p129 {z : St} (hc : Cx p R s m args c D (tysWM g) A (WM a g) cX9_cuts 15 RX9 1 29) (hr : Rtv p l e R s m args below meth c Q D A (WM a g) cX9_cuts z) : ∀ (fu : Nat) (S : St) (v1 : Int32) (v8 : Int64) (v10 : Int64) (v12 : Int32) (v13 : Int32) (v14 : Int32), f_X9_cuts_p129 fu S v1 v8 v10 v12 v13 v14 = some z → Go p l e R s m args below meth c Q D A (WM a g) 15 S 129 [(0, .ref (a 0)), (1, .int v1), (8, .long v8), (10, .long v10), (12, .int v12), (13, .int v13), (14, .int v14)] [] := by
  obtain ⟨⟨hx, hb, hml, hown, hts⟩, -, -, -, hnf, hno⟩ := id hc
  intro fu
  induction fu with
  | zero =>
    intro S v1 v8 v10 v12 v13 v14 h
    rw [f_X9_cuts_p129] at h
    cases h
  | succ fu ih =>
    intro S v1 v8 v10 v12 v13 v14 h H locs ls hP hS hl
    rw [f_X9_cuts_p129] at h
    refine lv_iload hx hb dX9_cuts_129 (lv_at hl 6 rfl) ?_
    refine lv_iload hx hb dX9_cuts_131 (lv_at hl 5 rfl) ?_
    refine lv_icmp_le (tgt := 186) hx hb dX9_cuts_133 (by decide) (fun hq => ?_) (fun hq => ?_)
    · replace h := if_yes hq h
      refine lv_aload_n hx hb dX9_cuts_186 rfl (lv_at hl 0 rfl) ?_
      refine gfWM_HiddenEdgesModel_cutUp hc hP q_113 dX9_cuts_187 ?_
      refine lv_iload hx hb dX9_cuts_190 (lv_at hl 4 rfl) ?_
      refine lv_iload hx hb dX9_cuts_192 (lv_at hl 5 rfl) ?_
      refine lv_iadd hx hb dX9_cuts_194 ?_
      refine lv_lload hx hb dX9_cuts_195 (lv_at hl 2 rfl) ?_
      obtain ⟨h1, h⟩ := chk_at h
      refine asWM_HiddenEdgesModel_cutUp hc hP hS h1 dX9_cuts_197 (fun H locs hP hS => ?_)
      obtain ⟨S2, eS2⟩ : ∃ z, z = sb S 0 ((v12 + v13)).toNatClampNeg v8 := ⟨_, rfl⟩
      replace h := olet_at eS2 h
      rw [← eS2] at hP
      refine lv_aload_n hx hb dX9_cuts_198 rfl (lv_at hl 0 rfl) ?_
      refine gfWM_HiddenEdgesModel_cutDown hc hP q_114 dX9_cuts_199 ?_
      refine lv_iload hx hb dX9_cuts_202 (lv_at hl 4 rfl) ?_
      refine lv_iload hx hb dX9_cuts_204 (lv_at hl 5 rfl) ?_
      refine lv_iadd hx hb dX9_cuts_206 ?_
      refine lv_lload hx hb dX9_cuts_207 (lv_at hl 3 rfl) ?_
      obtain ⟨h3, h⟩ := chk_at h
      refine asWM_HiddenEdgesModel_cutDown hc hP hS h3 dX9_cuts_209 (fun H locs hP hS => ?_)
      obtain ⟨S4, eS4⟩ : ∃ z, z = sb S2 1 ((v12 + v13)).toNatClampNeg v10 := ⟨_, rfl⟩
      replace h := olet_at eS4 h
      rw [← eS4] at hP
      refine lv_aload_n hx hb dX9_cuts_210 rfl (lv_at hl 0 rfl) ?_
      refine gfWM_HiddenEdgesModel_manyCuts hc hP q_112 dX9_cuts_211 ?_
      refine lv_iload_n hx hb dX9_cuts_214 rfl (lv_at hl 1 rfl) ?_
      refine lv_dup2_11 hx hb dX9_cuts_215 rfl rfl ?_
      obtain ⟨h5, h⟩ := chk_at h
      refine alWM_HiddenEdgesModel_manyCuts hc hP h5 dX9_cuts_216 ?_
      refine lv_iconst (v := 1) hx hb dX9_cuts_217 (by decide) ?_
      refine lv_iadd hx hb dX9_cuts_218 ?_
      obtain ⟨h6, h⟩ := chk_at h
      refine asWM_HiddenEdgesModel_manyCuts hc hP hS h6 dX9_cuts_219 (fun H locs hP hS => ?_)
      obtain ⟨S7, eS7⟩ : ∃ z, z = sa S4 12 (v1).toNatClampNeg ((ga S4 12 (v1).toNatClampNeg) + (1 : Int32)) := ⟨_, rfl⟩
      replace h := olet_at eS7 h
      rw [← eS7] at hP
      obtain rfl := Option.some.inj h
      exact hr _ _ _ _ dX9_cuts_220 hP hS
    · replace h := if_no hq h
      refine lv_aload_n hx hb dX9_cuts_136 rfl (lv_at hl 0 rfl) ?_
      refine gfWM_HiddenEdgesModel_cutUp hc hP q_113 dX9_cuts_137 ?_
      refine lv_iload hx hb dX9_cuts_140 (lv_at hl 4 rfl) ?_
      refine lv_iload hx hb dX9_cuts_142 (lv_at hl 6 rfl) ?_
      refine lv_iadd hx hb dX9_cuts_144 ?_
      refine lv_aload_n hx hb dX9_cuts_145 rfl (lv_at hl 0 rfl) ?_
      refine gfWM_HiddenEdgesModel_cutUp hc hP q_113 dX9_cuts_146 ?_
      refine lv_iload hx hb dX9_cuts_149 (lv_at hl 4 rfl) ?_
      refine lv_iload hx hb dX9_cuts_151 (lv_at hl 6 rfl) ?_
      refine lv_iadd hx hb dX9_cuts_153 ?_
      refine lv_iconst (v := 1) hx hb dX9_cuts_154 (by decide) ?_
      refine lv_isub hx hb dX9_cuts_155 ?_
      obtain ⟨h8, h⟩ := chk_at h
      refine alWM_HiddenEdgesModel_cutUp hc hP h8 dX9_cuts_156 ?_
      obtain ⟨h9, h⟩ := chk_at h
      refine asWM_HiddenEdgesModel_cutUp hc hP hS h9 dX9_cuts_157 (fun H locs hP hS => ?_)
      obtain ⟨S10, eS10⟩ : ∃ z, z = sb S 0 ((v12 + v14)).toNatClampNeg (gb S 0 (((v12 + v14) - (1 : Int32))).toNatClampNeg) := ⟨_, rfl⟩
      replace h := olet_at eS10 h
      rw [← eS10] at hP
      refine lv_aload_n hx hb dX9_cuts_158 rfl (lv_at hl 0 rfl) ?_
      refine gfWM_HiddenEdgesModel_cutDown hc hP q_114 dX9_cuts_159 ?_
      refine lv_iload hx hb dX9_cuts_162 (lv_at hl 4 rfl) ?_
      refine lv_iload hx hb dX9_cuts_164 (lv_at hl 6 rfl) ?_
      refine lv_iadd hx hb dX9_cuts_166 ?_
      refine lv_aload_n hx hb dX9_cuts_167 rfl (lv_at hl 0 rfl) ?_
      refine gfWM_HiddenEdgesModel_cutDown hc hP q_114 dX9_cuts_168 ?_
      refine lv_iload hx hb dX9_cuts_171 (lv_at hl 4 rfl) ?_
      refine lv_iload hx hb dX9_cuts_173 (lv_at hl 6 rfl) ?_
      refine lv_iadd hx hb dX9_cuts_175 ?_
      refine lv_iconst (v := 1) hx hb dX9_cuts_176 (by decide) ?_
      refine lv_isub hx hb dX9_cuts_177 ?_
      obtain ⟨h11, h⟩ := chk_at h
      refine alWM_HiddenEdgesModel_cutDown hc hP h11 dX9_cuts_178 ?_
      obtain ⟨h12, h⟩ := chk_at h
      refine asWM_HiddenEdgesModel_cutDown hc hP hS h12 dX9_cuts_179 (fun H locs hP hS => ?_)
      obtain ⟨S13, eS13⟩ : ∃ z, z = sb S10 1 ((v12 + v14)).toNatClampNeg (gb S10 1 (((v12 + v14) - (1 : Int32))).toNatClampNeg) := ⟨_, rfl⟩
      replace h := olet_at eS13 h
      rw [← eS13] at hP
      obtain ⟨x14, ex14⟩ : ∃ y : Int32, y = v14 + (-1 : Int32) := ⟨_, rfl⟩
      replace h := olet_at ex14 h
      refine lv_iinc (v := x14) (lv' := [(14, .int x14), (0, .ref (a 0)), (1, .int v1), (8, .long v8), (10, .long v10), (12, .int v12), (13, .int v13)]) hx hb dX9_cuts_180 hl (k := 6) rfl (by rw [ex14]; rfl) (by decide) rfl (fun ls hl => ?_)
      refine lv_goto (tgt := 129) hx hb dX9_cuts_183 (by decide) ?_
      exact ih S13 v1 v8 v10 v12 v13 x14 h H locs ls hP hS (lv_sub hl [1, 2, 3, 4, 5, 6, 0] rfl)
set_option maxHeartbeats 4000000 in
set_option maxRecDepth 100000 in
theorem t_X9_cuts_p77 {z : St} (hc : Cx p R s m args c D (tysWM g) A (WM a g) cX9_cuts 15 RX9 1 29) (hr : Rtv p l e R s m args below meth c Q D A (WM a g) cX9_cuts z) : ∀ (S : St) (v1 : Int32) (v8 : Int64) (v10 : Int64) (v12 : Int32) (v13 : Int32), f_X9_cuts_p77 S v1 v8 v10 v12 v13 = some z → Go p l e R s m args below meth c Q D A (WM a g) 15 S 77 [(0, .ref (a 0)), (1, .int v1), (8, .long v8), (10, .long v10), (12, .int v12), (13, .int v13)] [] := by
  obtain ⟨⟨hx, hb, hml, hown, hts⟩, -, -, -, hnf, hno⟩ := id hc
  intro S v1 v8 v10 v12 v13 h H locs ls hP hS hl
  rw [f_X9_cuts_p77] at h
  refine lv_iload hx hb dX9_cuts_77 (lv_at hl 5 rfl) ?_
  refine lv_aload_n hx hb dX9_cuts_79 rfl (lv_at hl 0 rfl) ?_
  refine gfWM_HiddenEdgesModel_manyCuts hc hP q_112 dX9_cuts_80 ?_
  refine lv_iload_n hx hb dX9_cuts_83 rfl (lv_at hl 1 rfl) ?_
  obtain ⟨h1, h⟩ := chk_at h
  refine alWM_HiddenEdgesModel_manyCuts hc hP h1 dX9_cuts_84 ?_
  refine lv_icmp_ge (tgt := 121) hx hb dX9_cuts_85 (by decide) (fun hq => ?_) (fun hq => ?_)
  · replace h := if_yes hq h
    refine lv_aload_n hx hb dX9_cuts_121 rfl (lv_at hl 0 rfl) ?_
    refine gfWM_HiddenEdgesModel_manyCuts hc hP q_112 dX9_cuts_122 ?_
    refine lv_iload_n hx hb dX9_cuts_125 rfl (lv_at hl 1 rfl) ?_
    obtain ⟨h2, h⟩ := chk_at h
    refine alWM_HiddenEdgesModel_manyCuts hc hP h2 dX9_cuts_126 ?_
    refine lv_topi (fun x3 ex3 => ?_)
    replace h := olet_at ex3 h
    refine lv_istore (lv' := [(14, .int x3), (0, .ref (a 0)), (1, .int v1), (8, .long v8), (10, .long v10), (12, .int v12), (13, .int v13)]) hx hb dX9_cuts_127 hl (by decide) rfl (fun ls hl => ?_)
    exact t_X9_cuts_p129 hc hr FU S v1 v8 v10 v12 v13 x3 h H locs ls hP hS (lv_sub hl [1, 2, 3, 4, 5, 6, 0] rfl)
  · replace h := if_no hq h
    refine lv_aload_n hx hb dX9_cuts_88 rfl (lv_at hl 0 rfl) ?_
    refine gfWM_HiddenEdgesModel_cutUp hc hP q_113 dX9_cuts_89 ?_
    refine lv_iload hx hb dX9_cuts_92 (lv_at hl 4 rfl) ?_
    refine lv_iload hx hb dX9_cuts_94 (lv_at hl 5 rfl) ?_
    refine lv_iadd hx hb dX9_cuts_96 ?_
    obtain ⟨h4, h⟩ := chk_at h
    refine alWM_HiddenEdgesModel_cutUp hc hP h4 dX9_cuts_97 ?_
    refine lv_lload hx hb dX9_cuts_98 (lv_at hl 2 rfl) ?_
    refine W.lcmp hx hb dX9_cuts_100 ?_
    refine lv_if_ne (tgt := 121) hx hb dX9_cuts_101 (by decide) (fun hq => ?_) (fun hq => ?_)
    · replace h := if_no hq h
      refine lv_aload_n hx hb dX9_cuts_121 rfl (lv_at hl 0 rfl) ?_
      refine gfWM_HiddenEdgesModel_manyCuts hc hP q_112 dX9_cuts_122 ?_
      refine lv_iload_n hx hb dX9_cuts_125 rfl (lv_at hl 1 rfl) ?_
      obtain ⟨h5, h⟩ := chk_at h
      refine alWM_HiddenEdgesModel_manyCuts hc hP h5 dX9_cuts_126 ?_
      refine lv_topi (fun x6 ex6 => ?_)
      replace h := olet_at ex6 h
      refine lv_istore (lv' := [(14, .int x6), (0, .ref (a 0)), (1, .int v1), (8, .long v8), (10, .long v10), (12, .int v12), (13, .int v13)]) hx hb dX9_cuts_127 hl (by decide) rfl (fun ls hl => ?_)
      exact t_X9_cuts_p129 hc hr FU S v1 v8 v10 v12 v13 x6 h H locs ls hP hS (lv_sub hl [1, 2, 3, 4, 5, 6, 0] rfl)
    · replace h := if_yes hq h
      refine lv_aload_n hx hb dX9_cuts_104 rfl (lv_at hl 0 rfl) ?_
      refine gfWM_HiddenEdgesModel_cutDown hc hP q_114 dX9_cuts_105 ?_
      refine lv_iload hx hb dX9_cuts_108 (lv_at hl 4 rfl) ?_
      refine lv_iload hx hb dX9_cuts_110 (lv_at hl 5 rfl) ?_
      refine lv_iadd hx hb dX9_cuts_112 ?_
      obtain ⟨h7, h⟩ := chk_at h
      refine alWM_HiddenEdgesModel_cutDown hc hP h7 dX9_cuts_113 ?_
      refine lv_lload hx hb dX9_cuts_114 (lv_at hl 3 rfl) ?_
      refine W.lcmp hx hb dX9_cuts_116 ?_
      refine lv_if_ne (tgt := 121) hx hb dX9_cuts_117 (by decide) (fun hq => ?_) (fun hq => ?_)
      · replace h := if_no hq h
        refine lv_aload_n hx hb dX9_cuts_121 rfl (lv_at hl 0 rfl) ?_
        refine gfWM_HiddenEdgesModel_manyCuts hc hP q_112 dX9_cuts_122 ?_
        refine lv_iload_n hx hb dX9_cuts_125 rfl (lv_at hl 1 rfl) ?_
        obtain ⟨h8, h⟩ := chk_at h
        refine alWM_HiddenEdgesModel_manyCuts hc hP h8 dX9_cuts_126 ?_
        refine lv_topi (fun x9 ex9 => ?_)
        replace h := olet_at ex9 h
        refine lv_istore (lv' := [(14, .int x9), (0, .ref (a 0)), (1, .int v1), (8, .long v8), (10, .long v10), (12, .int v12), (13, .int v13)]) hx hb dX9_cuts_127 hl (by decide) rfl (fun ls hl => ?_)
        exact t_X9_cuts_p129 hc hr FU S v1 v8 v10 v12 v13 x9 h H locs ls hP hS (lv_sub hl [1, 2, 3, 4, 5, 6, 0] rfl)
      · replace h := if_yes hq h
        obtain rfl := Option.some.inj h
        exact hr _ _ _ _ dX9_cuts_120 hP hS
set_option maxHeartbeats 4000000 in
set_option maxRecDepth 100000 in
theorem t_X9_cuts_p30 {z : St} (hc : Cx p R s m args c D (tysWM g) A (WM a g) cX9_cuts 15 RX9 1 29) (hr : Rtv p l e R s m args below meth c Q D A (WM a g) cX9_cuts z) : ∀ (fu : Nat) (S : St) (v1 : Int32) (v8 : Int64) (v10 : Int64) (v12 : Int32) (v13 : Int32), f_X9_cuts_p30 fu S v1 v8 v10 v12 v13 = some z → Go p l e R s m args below meth c Q D A (WM a g) 15 S 30 [(0, .ref (a 0)), (1, .int v1), (8, .long v8), (10, .long v10), (12, .int v12), (13, .int v13)] [] := by
  obtain ⟨⟨hx, hb, hml, hown, hts⟩, -, -, -, hnf, hno⟩ := id hc
  intro fu
  induction fu with
  | zero =>
    intro S v1 v8 v10 v12 v13 h
    rw [f_X9_cuts_p30] at h
    cases h
  | succ fu ih =>
    intro S v1 v8 v10 v12 v13 h H locs ls hP hS hl
    rw [f_X9_cuts_p30] at h
    refine lv_iload hx hb dX9_cuts_30 (lv_at hl 5 rfl) ?_
    refine lv_aload_n hx hb dX9_cuts_32 rfl (lv_at hl 0 rfl) ?_
    refine gfWM_HiddenEdgesModel_manyCuts hc hP q_112 dX9_cuts_33 ?_
    refine lv_iload_n hx hb dX9_cuts_36 rfl (lv_at hl 1 rfl) ?_
    obtain ⟨h1, h⟩ := chk_at h
    refine alWM_HiddenEdgesModel_manyCuts hc hP h1 dX9_cuts_37 ?_
    refine lv_icmp_ge (tgt := 77) hx hb dX9_cuts_38 (by decide) (fun hq => ?_) (fun hq => ?_)
    · replace h := if_yes hq h
      exact t_X9_cuts_p77 hc hr S v1 v8 v10 v12 v13 h H locs ls hP hS (lv_sub hl [0, 1, 2, 3, 4, 5] rfl)
    · replace h := if_no hq h
      refine lv_aload_n hx hb dX9_cuts_41 rfl (lv_at hl 0 rfl) ?_
      refine gfWM_HiddenEdgesModel_cutUp hc hP q_113 dX9_cuts_42 ?_
      refine lv_iload hx hb dX9_cuts_45 (lv_at hl 4 rfl) ?_
      refine lv_iload hx hb dX9_cuts_47 (lv_at hl 5 rfl) ?_
      refine lv_iadd hx hb dX9_cuts_49 ?_
      obtain ⟨h2, h⟩ := chk_at h
      refine alWM_HiddenEdgesModel_cutUp hc hP h2 dX9_cuts_50 ?_
      refine lv_lload hx hb dX9_cuts_51 (lv_at hl 3 rfl) ?_
      refine lv_lmul hx hb dX9_cuts_53 ?_
      refine lv_lload hx hb dX9_cuts_54 (lv_at hl 2 rfl) ?_
      refine lv_aload_n hx hb dX9_cuts_56 rfl (lv_at hl 0 rfl) ?_
      refine gfWM_HiddenEdgesModel_cutDown hc hP q_114 dX9_cuts_57 ?_
      refine lv_iload hx hb dX9_cuts_60 (lv_at hl 4 rfl) ?_
      refine lv_iload hx hb dX9_cuts_62 (lv_at hl 5 rfl) ?_
      refine lv_iadd hx hb dX9_cuts_64 ?_
      obtain ⟨h3, h⟩ := chk_at h
      refine alWM_HiddenEdgesModel_cutDown hc hP h3 dX9_cuts_65 ?_
      refine lv_lmul hx hb dX9_cuts_66 ?_
      refine W.lcmp hx hb dX9_cuts_67 ?_
      refine lv_if_ge (tgt := 77) hx hb dX9_cuts_68 (by decide) (fun hq => ?_) (fun hq => ?_)
      · replace h := if_yes hq h
        exact t_X9_cuts_p77 hc hr S v1 v8 v10 v12 v13 h H locs ls hP hS (lv_sub hl [0, 1, 2, 3, 4, 5] rfl)
      · replace h := if_no hq h
        obtain ⟨x4, ex4⟩ : ∃ y : Int32, y = v13 + (1 : Int32) := ⟨_, rfl⟩
        replace h := olet_at ex4 h
        refine lv_iinc (v := x4) (lv' := [(13, .int x4), (0, .ref (a 0)), (1, .int v1), (8, .long v8), (10, .long v10), (12, .int v12)]) hx hb dX9_cuts_71 hl (k := 5) rfl (by rw [ex4]; rfl) (by decide) rfl (fun ls hl => ?_)
        refine lv_goto (tgt := 30) hx hb dX9_cuts_74 (by decide) ?_
        exact ih S v1 v8 v10 v12 x4 h H locs ls hP hS (lv_sub hl [1, 2, 3, 4, 5, 0] rfl)
set_option maxHeartbeats 4000000 in
set_option maxRecDepth 100000 in
theorem t_X9_cuts {z : St} (hc : Cx p R s m args c D (tysWM g) A (WM a g) cX9_cuts 15 RX9 1 29) (hr : Rtv p l e R s m args below meth c Q D A (WM a g) cX9_cuts z) : ∀ (S : St) (v1 : Int32) (v2 : Int64) (v4 : Int64), f_X9_cuts S v1 v2 v4 = some z → Go p l e R s m args below meth c Q D A (WM a g) 15 S 0 [(0, .ref (a 0)), (1, .int v1), (2, .long v2), (4, .long v4)] [] := by
  obtain ⟨⟨hx, hb, hml, hown, hts⟩, -, -, -, hnf, hno⟩ := id hc
  intro S v1 v2 v4 h H locs ls hP hS hl
  rw [f_X9_cuts] at h
  replace hl : lv_has ls 15 [(0, .ref (a 0)), (1, .int v1), (2, .long v2), (4, .long v4)] := hl
  refine lv_lload hx hb dX9_cuts_0 (lv_at hl 3 rfl) ?_
  refine lv_lload_n hx hb dX9_cuts_2 rfl (lv_at hl 2 rfl) ?_
  obtain ⟨S1, x3, hk2, h⟩ := ob2_at h
  refine cl_Sl (As := [.long v4, .long v2]) (rest := []) hc k_X9_common q_579 (c_X9_common hk2) hP hS rfl hl (Nat.le_of_ble_eq_true rfl) dX9_cuts_3 (Nat.le_of_ble_eq_true rfl) (Nat.le_of_ble_eq_true rfl) rfl (fun H locs hP hS => ?_)
  refine lv_lstore (lv' := [(6, .long x3), (0, .ref (a 0)), (1, .int v1), (2, .long v2), (4, .long v4)]) hx hb dX9_cuts_6 hl (by decide) rfl (fun ls hl => ?_)
  refine lv_lload_n hx hb dX9_cuts_8 rfl (lv_at hl 3 rfl) ?_
  refine lv_lload hx hb dX9_cuts_9 (lv_at hl 0 rfl) ?_
  obtain ⟨h4, h⟩ := chk_at h
  refine lv_ldiv hx hb dX9_cuts_11 h4 ?_
  refine lv_topl (fun x5 ex5 => ?_)
  replace h := olet_at ex5 h
  refine lv_lstore (lv' := [(8, .long x5), (6, .long x3), (0, .ref (a 0)), (1, .int v1), (2, .long v2), (4, .long v4)]) hx hb dX9_cuts_12 hl (by decide) rfl (fun ls hl => ?_)
  refine lv_lload hx hb dX9_cuts_14 (lv_at hl 5 rfl) ?_
  refine lv_lload hx hb dX9_cuts_16 (lv_at hl 1 rfl) ?_
  obtain ⟨h6, h⟩ := chk_at h
  refine lv_ldiv hx hb dX9_cuts_18 h6 ?_
  refine lv_topl (fun x7 ex7 => ?_)
  replace h := olet_at ex7 h
  refine lv_lstore (lv' := [(10, .long x7), (8, .long x5), (6, .long x3), (0, .ref (a 0)), (1, .int v1), (2, .long v2), (4, .long v4)]) hx hb dX9_cuts_19 hl (by decide) rfl (fun ls hl => ?_)
  refine lv_bipush (v := 50) hx hb dX9_cuts_21 (by decide) ?_
  refine lv_iload_n hx hb dX9_cuts_23 rfl (lv_at hl 4 rfl) ?_
  refine lv_imul hx hb dX9_cuts_24 ?_
  refine lv_topi (fun x8 ex8 => ?_)
  replace h := olet_at ex8 h
  refine lv_istore (lv' := [(12, .int x8), (10, .long x7), (8, .long x5), (6, .long x3), (0, .ref (a 0)), (1, .int v1), (2, .long v2), (4, .long v4)]) hx hb dX9_cuts_25 hl (by decide) rfl (fun ls hl => ?_)
  refine lv_iconst (v := 0) hx hb dX9_cuts_27 (by decide) ?_
  refine lv_istore (lv' := [(13, .int (0 : Int32)), (12, .int x8), (10, .long x7), (8, .long x5), (6, .long x3), (0, .ref (a 0)), (1, .int v1), (2, .long v2), (4, .long v4)]) hx hb dX9_cuts_28 hl (by decide) rfl (fun ls hl => ?_)
  exact t_X9_cuts_p30 hc hr FU S1 v1 x5 x7 x8 (0 : Int32) h H locs ls hP hS (lv_sub hl [5, 6, 3, 2, 1, 0] rfl)
abbrev rm_X9_cuts : Room := { frames := 1, cells := 0, slots := 0, locals := 29 }
theorem c_X9_cuts {l : Launch} {D : va_G} {a : Nat → Nat} {g : Nat → ClassId} {S : St} {v1 : Int32} {v2 : Int64} {v4 : Int64} {z : St} (h : f_X9_cuts S v1 v2 v4 = some z) : MetV l D (tysWM g) (WM a g) E0 yX9_cuts cX9_cuts 15 none rm_X9_cuts [.ref (a 0), .int v1, .long v2, .long v4] S z := mk_v (WM_same a g) (by decide) z (Nat.le_of_ble_eq_true rfl) (fun p e s m args below meth c A Q hc hE hr => t_X9_cuts hc hr S v1 v2 v4 h)
theorem k_X9_cuts : CalV RX9 yX9_cuts cX9_cuts 15 none rm_X9_cuts 3 := ⟨q_576, q_577, q_5, q_578, by decide +kernel, rfl, rfl⟩
end W
