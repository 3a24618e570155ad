def PreI (D : va_G) (ws : va_W) (sz : Nat) (E : State → Prop) (U : State) : Prop := U.heap.size = sz ∧ va_P D vwCl ws U.heap ∧ va_K D vwCl [] U ∧ va_D (fun _ => True) ws ∧ E U
theorem PreI.blind {D : va_G} {ws : va_W} {sz : Nat} {E : State → Prop} (hE : ∀ (a : Array Value) (U : State) (g : JFrame) (mk : MethodId), E U → E (U.calling g mk a)) {av : List Value} : FrameBlind (va_Pc av (PreI D ws sz E)) := by
  intro a U g mk h
  obtain ⟨h0, h1, h2, h3, h4, h5⟩ := h
  exact ⟨h0, h1, h2, va_K.moved (u := U) (U := U.calling g mk a) (Vm.Alike.refl U.vm) h3, h4, hE _ _ _ _ h5⟩
def PostI (D : va_G) (A : Nat → Prop) (INI : (Nat → Nat) → (Nat → ClassId) → va_W) (TYS : (Nat → ClassId) → List (ClassId × FieldType)) (_ : Unit) (t : State) : Prop := ∃ (q : Nat → Nat) (g : Nat → ClassId), va_P D vwCl (INI q g) t.heap ∧ va_K D vwCl (TYS g) t ∧ va_D A (INI q g)
def NST (U : State) : Prop := va_Nw (.methodLinkNest "HiddenEdges" 11 yX4_init "HiddenEdges") U ∧ va_Nw (.methodLinkNest "HiddenEdges" 18 yX6_init "HiddenEdges") U ∧ va_Nw (.methodLinkNest "HiddenEdges" 25 yX1_init "HiddenEdges") U ∧ va_Nw (.methodLinkNest "HiddenEdges" 32 yX0_init "HiddenEdges") U ∧ va_Nw (.methodLinkNest "HiddenEdges" 39 yX5_init "HiddenEdges") U ∧ va_Nw (.methodLinkNest "HiddenEdges" 46 yX7_init "HiddenEdges") U ∧ va_Nw (.methodLinkNest "HiddenEdges" 53 yX3_init "HiddenEdges") U
theorem NST.blind (a : Array Value) (U : State) (g : JFrame) (mk : MethodId) (h : NST U) : NST (U.calling g mk a) := by
  obtain ⟨h1, h2, h3, h4, h5, h6, h7⟩ := h
  exact ⟨va_Nw.same rfl rfl h1, va_Nw.same rfl rfl h2, va_Nw.same rfl rfl h3, va_Nw.same rfl rfl h4, va_Nw.same rfl rfl h5, va_Nw.same rfl rfl h6, va_Nw.same rfl rfl h7⟩
theorem NST.warm {s U : State} (hW : s.WarmedH U.vm) (h : NST s) : NST U := by
  obtain ⟨h1, h2, h3, h4, h5, h6, h7⟩ := h
  exact ⟨va_Nw.warmM hW h1, va_Nw.warmM hW h2, va_Nw.warmM hW h3, va_Nw.warmM hW h4, va_Nw.warmM hW h5, va_Nw.warmM hW h6, va_Nw.warmM hW h7⟩
def INI_X4 (h0 : Nat) (q : Nat → Nat) (g : Nat → ClassId) : va_W := [(h0, .inr (3, [.ref (q 0), .ref (q 1), .ref (q 2), .ref (q 3), .ref (q 4), .int 0, .int 0, .int 0])), ((q 0), .inl ((g 0), 16, .inl (fun _ => 0))), ((q 1), .inl ((g 1), 16, .inl (fun _ => 0))), ((q 2), .inl ((g 2), 16, .inl (fun _ => 0))), ((q 3), .inl ((g 3), 72, .inl (fun _ => 0))), ((q 4), .inl ((g 4), 16, .inl (fun _ => 0)))]
def TYS_X4 (g : Nat → ClassId) : List (ClassId × FieldType) := [((g 0), .int), ((g 1), .int), ((g 2), .int), ((g 3), .int), ((g 4), .int)]
abbrev rmi_X4 : Room := { frames := 1, cells := 5, slots := 136, locals := 12 }
set_option maxHeartbeats 4000000 in
set_option maxRecDepth 100000 in
theorem ci_X4 {l : Launch} {D : va_G} {h0 : Nat} (sz : Nat) : Met l yX4_init (Cond.code yX4_init cX4_init 1 none :: wU) rmi_X4 (va_Pc [.ref h0] (PreI D [(h0, .inr (3, [.null, .null, .null, .null, .null, .int 0, .int 0, .int 0]))] sz (fun _ => True))) (va_Qv (fun (_ : Unit) => True) (PostI D (va_A [(h0, .inr (3, [.null, .null, .null, .null, .null, .int 0, .int 0, .int 0]))] sz) (INI_X4 h0) TYS_X4) (va_A [(h0, .inr (3, [.null, .null, .null, .null, .null, .int 0, .int 0, .int 0]))] sz)) 5 136 (va_A [(h0, .inr (3, [.null, .null, .null, .null, .null, .int 0, .int 0, .int 0]))] sz) := by
  refine Met.ofW (cc := cX4_init) (maxL := 1) (ret := none) (by decide) rfl ?_
  intro p e s m args below meth c s₁ B hml hv
  obtain ⟨rfl, hsz, hP, hK, hD0, hE⟩ := hv
  have hx := B.exec
  have hb := B.bytes
  have hr := B.returns
  have hts0 := atoms_spec (ws := Cond.code yX4_init cX4_init 1 none :: wU) B.pre
  have hts : ∀ w ∈ wU, w.before [Value.ref h0].toArray s = true := fun w h => hts0 w (List.mem_cons_of_mem _ h)
  have hown : s.vm.findClass RX4 = some m.cls := findClass_of_methodNamed B.named
  have hlocks := B.notSynchronized
  have hin : meth.name = "<init>" := (name_of_methodNamed B.named B.method).1
  subst hsz
  have hD := hD0.self (sz := s.heap.size)
  generalize hAe : va_A [(h0, .inr (3, [.null, .null, .null, .null, .null, .int 0, .int 0, .int 0]))] s.heap.size = A at hD ⊢
  have hA : ∀ q : Nat, s.heap.size ≤ q → A q := fun q h => by rw [← hAe]; exact Or.inr h
  have hS : va_S A s.heap s.heap [] := va_S.rf
  have hl := lv_entry ([.ref h0]) (n := 1) (Nat.le_of_ble_eq_true rfl)
  rw [lg_entry_eq]
  generalize (lg_sl ([.ref h0]) ++ List.replicate (1 - (lg_sl ([.ref h0])).length) Slot.unset).toArray = ls at hl ⊢
  replace hl : lv_has ls 1 [(0, .ref h0)] := hl
  refine lv_aload_n hx hb dX4_init_0 rfl (lv_at hl 0 rfl) ?_
  refine W.objInit hx hb hown (hts _ q_46) (hts _ q_10) (hts _ q_11) rfl (by rw [hml]; exact hl.1) rfl dX4_init_1 (Nat.le_of_ble_eq_true rfl) (Nat.le_of_ble_eq_true rfl) ?_
  refine W.eq (g2 := F0 m 4 ls []) rfl ?_
  refine lv_aload_n hx hb dX4_init_4 rfl (lv_at hl 0 rfl) ?_
  refine lv_bipush (v := 16) hx hb dX4_init_5 (by decide) ?_
  refine va_newa (atype := .int) (ty := .int) (N' := 16) (a0 := (16, .inl (fun _ => 0))) hx hb (hts _ q_40) rfl hK hP hD hS hA (fun _ => rfl) (by decide) (by decide) (Nat.le_of_ble_eq_true rfl) (Nat.le_of_ble_eq_true rfl) (Nat.le_of_ble_eq_true rfl) dX4_init_7 (fun q1 g1 H hK hP hD hS => ?_)
  replace hP : va_P D vwCl [(h0, .inr (3, [.null, .null, .null, .null, .null, .int 0, .int 0, .int 0])), (q1, .inl (g1, 16, .inl (fun _ => 0)))] H := hP
  replace hD : va_D A [(h0, .inr (3, [.null, .null, .null, .null, .null, .int 0, .int 0, .int 0])), (q1, .inl (g1, 16, .inl (fun _ => 0)))] := hD
  replace hK : va_K D vwCl [(g1, .int)] s := hK
  refine va_putF (D := D) (ci := 3) (v := .ref q1) (ty := .array .int) (C := RX4) (T := TX4) (N := 8) hx hb hts inlX4 tyX4 tyX4_ok nmX4 hown hK hP hD hS 0 rfl rfl 0 (by decide) (hts _ q_47) (fun _ h9 => h9) rfl hin rfl (by decide +kernel) rfl rfl (Nat.le_of_ble_eq_true rfl) dX4_init_9 (fun H locs hP hD hS => ?_)
  replace hP : va_P D vwCl [(h0, .inr (3, [.ref q1, .null, .null, .null, .null, .int 0, .int 0, .int 0])), (q1, .inl (g1, 16, .inl (fun _ => 0)))] H := hP
  replace hD : va_D A [(h0, .inr (3, [.ref q1, .null, .null, .null, .null, .int 0, .int 0, .int 0])), (q1, .inl (g1, 16, .inl (fun _ => 0)))] := hD
  refine lv_aload_n hx hb dX4_init_12 rfl (lv_at hl 0 rfl) ?_
  refine lv_bipush (v := 16) hx hb dX4_init_13 (by decide) ?_
  refine va_newa (atype := .int) (ty := .int) (N' := 16) (a0 := (16, .inl (fun _ => 0))) hx hb (hts _ q_40) rfl hK hP hD hS hA (fun _ => rfl) (by decide) (by decide) (Nat.le_of_ble_eq_true rfl) (Nat.le_of_ble_eq_true rfl) (Nat.le_of_ble_eq_true rfl) dX4_init_15 (fun q2 g2 H hK hP hD hS => ?_)
  replace hP : va_P D vwCl [(h0, .inr (3, [.ref q1, .null, .null, .null, .null, .int 0, .int 0, .int 0])), (q1, .inl (g1, 16, .inl (fun _ => 0))), (q2, .inl (g2, 16, .inl (fun _ => 0)))] H := hP
  replace hD : va_D A [(h0, .inr (3, [.ref q1, .null, .null, .null, .null, .int 0, .int 0, .int 0])), (q1, .inl (g1, 16, .inl (fun _ => 0))), (q2, .inl (g2, 16, .inl (fun _ => 0)))] := hD
  replace hK : va_K D vwCl [(g1, .int), (g2, .int)] s := hK
  refine va_putF (D := D) (ci := 3) (v := .ref q2) (ty := .array .int) (C := RX4) (T := TX4) (N := 8) hx hb hts inlX4 tyX4 tyX4_ok nmX4 hown hK hP hD hS 0 rfl rfl 1 (by decide) (hts _ q_48) (fun _ h9 => h9) rfl hin rfl (by decide +kernel) rfl rfl (Nat.le_of_ble_eq_true rfl) dX4_init_17 (fun H locs hP hD hS => ?_)
  replace hP : va_P D vwCl [(h0, .inr (3, [.ref q1, .ref q2, .null, .null, .null, .int 0, .int 0, .int 0])), (q1, .inl (g1, 16, .inl (fun _ => 0))), (q2, .inl (g2, 16, .inl (fun _ => 0)))] H := hP
  replace hD : va_D A [(h0, .inr (3, [.ref q1, .ref q2, .null, .null, .null, .int 0, .int 0, .int 0])), (q1, .inl (g1, 16, .inl (fun _ => 0))), (q2, .inl (g2, 16, .inl (fun _ => 0)))] := hD
  refine lv_aload_n hx hb dX4_init_20 rfl (lv_at hl 0 rfl) ?_
  refine lv_bipush (v := 16) hx hb dX4_init_21 (by decide) ?_
  refine va_newa (atype := .int) (ty := .int) (N' := 16) (a0 := (16, .inl (fun _ => 0))) hx hb (hts _ q_40) rfl hK hP hD hS hA (fun _ => rfl) (by decide) (by decide) (Nat.le_of_ble_eq_true rfl) (Nat.le_of_ble_eq_true rfl) (Nat.le_of_ble_eq_true rfl) dX4_init_23 (fun q3 g3 H hK hP hD hS => ?_)
  replace hP : va_P D vwCl [(h0, .inr (3, [.ref q1, .ref q2, .null, .null, .null, .int 0, .int 0, .int 0])), (q1, .inl (g1, 16, .inl (fun _ => 0))), (q2, .inl (g2, 16, .inl (fun _ => 0))), (q3, .inl (g3, 16, .inl (fun _ => 0)))] H := hP
  replace hD : va_D A [(h0, .inr (3, [.ref q1, .ref q2, .null, .null, .null, .int 0, .int 0, .int 0])), (q1, .inl (g1, 16, .inl (fun _ => 0))), (q2, .inl (g2, 16, .inl (fun _ => 0))), (q3, .inl (g3, 16, .inl (fun _ => 0)))] := hD
  replace hK : va_K D vwCl [(g1, .int), (g2, .int), (g3, .int)] s := hK
  refine va_putF (D := D) (ci := 3) (v := .ref q3) (ty := .array .int) (C := RX4) (T := TX4) (N := 8) hx hb hts inlX4 tyX4 tyX4_ok nmX4 hown hK hP hD hS 0 rfl rfl 2 (by decide) (hts _ q_49) (fun _ h9 => h9) rfl hin rfl (by decide +kernel) rfl rfl (Nat.le_of_ble_eq_true rfl) dX4_init_25 (fun H locs hP hD hS => ?_)
  replace hP : va_P D vwCl [(h0, .inr (3, [.ref q1, .ref q2, .ref q3, .null, .null, .int 0, .int 0, .int 0])), (q1, .inl (g1, 16, .inl (fun _ => 0))), (q2, .inl (g2, 16, .inl (fun _ => 0))), (q3, .inl (g3, 16, .inl (fun _ => 0)))] H := hP
  replace hD : va_D A [(h0, .inr (3, [.ref q1, .ref q2, .ref q3, .null, .null, .int 0, .int 0, .int 0])), (q1, .inl (g1, 16, .inl (fun _ => 0))), (q2, .inl (g2, 16, .inl (fun _ => 0))), (q3, .inl (g3, 16, .inl (fun _ => 0)))] := hD
  refine lv_aload_n hx hb dX4_init_28 rfl (lv_at hl 0 rfl) ?_
  refine lv_bipush (v := 72) hx hb dX4_init_29 (by decide) ?_
  refine va_newa (atype := .int) (ty := .int) (N' := 72) (a0 := (72, .inl (fun _ => 0))) hx hb (hts _ q_40) rfl hK hP hD hS hA (fun _ => rfl) (by decide) (by decide) (Nat.le_of_ble_eq_true rfl) (Nat.le_of_ble_eq_true rfl) (Nat.le_of_ble_eq_true rfl) dX4_init_31 (fun q4 g4 H hK hP hD hS => ?_)
  replace hP : va_P D vwCl [(h0, .inr (3, [.ref q1, .ref q2, .ref q3, .null, .null, .int 0, .int 0, .int 0])), (q1, .inl (g1, 16, .inl (fun _ => 0))), (q2, .inl (g2, 16, .inl (fun _ => 0))), (q3, .inl (g3, 16, .inl (fun _ => 0))), (q4, .inl (g4, 72, .inl (fun _ => 0)))] H := hP
  replace hD : va_D A [(h0, .inr (3, [.ref q1, .ref q2, .ref q3, .null, .null, .int 0, .int 0, .int 0])), (q1, .inl (g1, 16, .inl (fun _ => 0))), (q2, .inl (g2, 16, .inl (fun _ => 0))), (q3, .inl (g3, 16, .inl (fun _ => 0))), (q4, .inl (g4, 72, .inl (fun _ => 0)))] := hD
  replace hK : va_K D vwCl [(g1, .int), (g2, .int), (g3, .int), (g4, .int)] s := hK
  refine va_putF (D := D) (ci := 3) (v := .ref q4) (ty := .array .int) (C := RX4) (T := TX4) (N := 8) hx hb hts inlX4 tyX4 tyX4_ok nmX4 hown hK hP hD hS 0 rfl rfl 3 (by decide) (hts _ q_50) (fun _ h9 => h9) rfl hin rfl (by decide +kernel) rfl rfl (Nat.le_of_ble_eq_true rfl) dX4_init_33 (fun H locs hP hD hS => ?_)
  replace hP : va_P D vwCl [(h0, .inr (3, [.ref q1, .ref q2, .ref q3, .ref q4, .null, .int 0, .int 0, .int 0])), (q1, .inl (g1, 16, .inl (fun _ => 0))), (q2, .inl (g2, 16, .inl (fun _ => 0))), (q3, .inl (g3, 16, .inl (fun _ => 0))), (q4, .inl (g4, 72, .inl (fun _ => 0)))] H := hP
  replace hD : va_D A [(h0, .inr (3, [.ref q1, .ref q2, .ref q3, .ref q4, .null, .int 0, .int 0, .int 0])), (q1, .inl (g1, 16, .inl (fun _ => 0))), (q2, .inl (g2, 16, .inl (fun _ => 0))), (q3, .inl (g3, 16, .inl (fun _ => 0))), (q4, .inl (g4, 72, .inl (fun _ => 0)))] := hD
  refine lv_aload_n hx hb dX4_init_36 rfl (lv_at hl 0 rfl) ?_
  refine lv_bipush (v := 16) hx hb dX4_init_37 (by decide) ?_
  refine va_newa (atype := .int) (ty := .int) (N' := 16) (a0 := (16, .inl (fun _ => 0))) hx hb (hts _ q_40) rfl hK hP hD hS hA (fun _ => rfl) (by decide) (by decide) (Nat.le_of_ble_eq_true rfl) (Nat.le_of_ble_eq_true rfl) (Nat.le_of_ble_eq_true rfl) dX4_init_39 (fun q5 g5 H hK hP hD hS => ?_)
  replace hP : va_P D vwCl [(h0, .inr (3, [.ref q1, .ref q2, .ref q3, .ref q4, .null, .int 0, .int 0, .int 0])), (q1, .inl (g1, 16, .inl (fun _ => 0))), (q2, .inl (g2, 16, .inl (fun _ => 0))), (q3, .inl (g3, 16, .inl (fun _ => 0))), (q4, .inl (g4, 72, .inl (fun _ => 0))), (q5, .inl (g5, 16, .inl (fun _ => 0)))] H := hP
  replace hD : va_D A [(h0, .inr (3, [.ref q1, .ref q2, .ref q3, .ref q4, .null, .int 0, .int 0, .int 0])), (q1, .inl (g1, 16, .inl (fun _ => 0))), (q2, .inl (g2, 16, .inl (fun _ => 0))), (q3, .inl (g3, 16, .inl (fun _ => 0))), (q4, .inl (g4, 72, .inl (fun _ => 0))), (q5, .inl (g5, 16, .inl (fun _ => 0)))] := hD
  replace hK : va_K D vwCl [(g1, .int), (g2, .int), (g3, .int), (g4, .int), (g5, .int)] s := hK
  refine va_putF (D := D) (ci := 3) (v := .ref q5) (ty := .array .int) (C := RX4) (T := TX4) (N := 8) hx hb hts inlX4 tyX4 tyX4_ok nmX4 hown hK hP hD hS 0 rfl rfl 4 (by decide) (hts _ q_51) (fun _ h9 => h9) rfl hin rfl (by decide +kernel) rfl rfl (Nat.le_of_ble_eq_true rfl) dX4_init_41 (fun H locs hP hD hS => ?_)
  replace hP : va_P D vwCl [(h0, .inr (3, [.ref q1, .ref q2, .ref q3, .ref q4, .ref q5, .int 0, .int 0, .int 0])), (q1, .inl (g1, 16, .inl (fun _ => 0))), (q2, .inl (g2, 16, .inl (fun _ => 0))), (q3, .inl (g3, 16, .inl (fun _ => 0))), (q4, .inl (g4, 72, .inl (fun _ => 0))), (q5, .inl (g5, 16, .inl (fun _ => 0)))] H := hP
  replace hD : va_D A [(h0, .inr (3, [.ref q1, .ref q2, .ref q3, .ref q4, .ref q5, .int 0, .int 0, .int 0])), (q1, .inl (g1, 16, .inl (fun _ => 0))), (q2, .inl (g2, 16, .inl (fun _ => 0))), (q3, .inl (g3, 16, .inl (fun _ => 0))), (q4, .inl (g4, 72, .inl (fun _ => 0))), (q5, .inl (g5, 16, .inl (fun _ => 0)))] := hD
  exact W.vret hx hb hr (fun t ht hW => ⟨⟨(), rfl, trivial, (fun k => [q1, q2, q3, q4, q5].getD k 0), (fun k => [g1, g2, g3, g4, g5].getD k 0), by rw [ht]; exact hP, va_K.moved hW.alike hK, hD⟩, hS.F ht⟩) hS.2.2 dX4_init_44

def INI_X6 (h0 : Nat) (q : Nat → Nat) (g : Nat → ClassId) : va_W := [(h0, .inr (5, [.int 0, .int 0, .int 1, .int 0, .ref (q 0), .ref (q 1), .ref (q 2), .ref (q 3), .ref (q 4)])), ((q 0), .inl ((g 0), 256, .inl (fun _ => 0))), ((q 1), .inl ((g 1), 72, .inl (fun _ => 0))), ((q 2), .inl ((g 2), 1536, .inl (fun _ => 0))), ((q 3), .inl ((g 3), 16, .inl (fun _ => 0))), ((q 4), .inl ((g 4), 24, .inl (fun _ => 0)))]
def TYS_X6 (g : Nat → ClassId) : List (ClassId × FieldType) := [((g 0), .int), ((g 1), .int), ((g 2), .int), ((g 3), .int), ((g 4), .int)]
abbrev rmi_X6 : Room := { frames := 1, cells := 5, slots := 1904, locals := 12 }
set_option maxHeartbeats 4000000 in
set_option maxRecDepth 100000 in
theorem ci_X6 {l : Launch} {D : va_G} {h0 : Nat} (sz : Nat) : Met l yX6_init (Cond.code yX6_init cX6_init 1 none :: wU) rmi_X6 (va_Pc [.ref h0] (PreI D [(h0, .inr (5, [.int 0, .int 0, .int 0, .int 0, .null, .null, .null, .null, .null]))] sz (fun _ => True))) (va_Qv (fun (_ : Unit) => True) (PostI D (va_A [(h0, .inr (5, [.int 0, .int 0, .int 0, .int 0, .null, .null, .null, .null, .null]))] sz) (INI_X6 h0) TYS_X6) (va_A [(h0, .inr (5, [.int 0, .int 0, .int 0, .int 0, .null, .null, .null, .null, .null]))] sz)) 5 1904 (va_A [(h0, .inr (5, [.int 0, .int 0, .int 0, .int 0, .null, .null, .null, .null, .null]))] sz) := by
  refine Met.ofW (cc := cX6_init) (maxL := 1) (ret := none) (by decide) rfl ?_
  intro p e s m args below meth c s₁ B hml hv
  obtain ⟨rfl, hsz, hP, hK, hD0, hE⟩ := hv
  have hx := B.exec
  have hb := B.bytes
  have hr := B.returns
  have hts0 := atoms_spec (ws := Cond.code yX6_init cX6_init 1 none :: wU) B.pre
  have hts : ∀ w ∈ wU, w.before [Value.ref h0].toArray s = true := fun w h => hts0 w (List.mem_cons_of_mem _ h)
  have hown : s.vm.findClass RX6 = some m.cls := findClass_of_methodNamed B.named
  have hlocks := B.notSynchronized
  have hin : meth.name = "<init>" := (name_of_methodNamed B.named B.method).1
  subst hsz
  have hD := hD0.self (sz := s.heap.size)
  generalize hAe : va_A [(h0, .inr (5, [.int 0, .int 0, .int 0, .int 0, .null, .null, .null, .null, .null]))] s.heap.size = A at hD ⊢
  have hA : ∀ q : Nat, s.heap.size ≤ q → A q := fun q h => by rw [← hAe]; exact Or.inr h
  have hS : va_S A s.heap s.heap [] := va_S.rf
  have hl := lv_entry ([.ref h0]) (n := 1) (Nat.le_of_ble_eq_true rfl)
  rw [lg_entry_eq]
  generalize (lg_sl ([.ref h0]) ++ List.replicate (1 - (lg_sl ([.ref h0])).length) Slot.unset).toArray = ls at hl ⊢
  replace hl : lv_has ls 1 [(0, .ref h0)] := hl
  refine lv_aload_n hx hb dX6_init_0 rfl (lv_at hl 0 rfl) ?_
  refine W.objInit hx hb hown (hts _ q_54) (hts _ q_10) (hts _ q_11) rfl (by rw [hml]; exact hl.1) rfl dX6_init_1 (Nat.le_of_ble_eq_true rfl) (Nat.le_of_ble_eq_true rfl) ?_
  refine W.eq (g2 := F0 m 4 ls []) rfl ?_
  refine lv_aload_n hx hb dX6_init_4 rfl (lv_at hl 0 rfl) ?_
  refine lv_iconst (v := 0) hx hb dX6_init_5 (by decide) ?_
  refine va_put (D := D) (ci := 5) (v := .int 0) (ty := .int) (C := RX6) (T := TX6) (N := 9) hx hb hts inlX6 tyX6 tyX6_ok nmX6 hown hK hP hD hS 0 rfl rfl 0 (by decide) (hts _ q_55) (fun _ h9 => h9) rfl (by decide +kernel) rfl rfl (Nat.le_of_ble_eq_true rfl) dX6_init_6 (fun H locs hP hD hS => ?_)
  replace hP : va_P D vwCl [(h0, .inr (5, [.int 0, .int 0, .int 0, .int 0, .null, .null, .null, .null, .null]))] H := hP
  replace hD : va_D A [(h0, .inr (5, [.int 0, .int 0, .int 0, .int 0, .null, .null, .null, .null, .null]))] := hD
  refine lv_aload_n hx hb dX6_init_9 rfl (lv_at hl 0 rfl) ?_
  refine lv_iconst (v := 0) hx hb dX6_init_10 (by decide) ?_
  refine va_put (D := D) (ci := 5) (v := .int 0) (ty := .int) (C := RX6) (T := TX6) (N := 9) hx hb hts inlX6 tyX6 tyX6_ok nmX6 hown hK hP hD hS 0 rfl rfl 1 (by decide) (hts _ q_56) (fun _ h9 => h9) rfl (by decide +kernel) rfl rfl (Nat.le_of_ble_eq_true rfl) dX6_init_11 (fun H locs hP hD hS => ?_)
  replace hP : va_P D vwCl [(h0, .inr (5, [.int 0, .int 0, .int 0, .int 0, .null, .null, .null, .null, .null]))] H := hP
  replace hD : va_D A [(h0, .inr (5, [.int 0, .int 0, .int 0, .int 0, .null, .null, .null, .null, .null]))] := hD
  refine lv_aload_n hx hb dX6_init_14 rfl (lv_at hl 0 rfl) ?_
  refine lv_iconst (v := 1) hx hb dX6_init_15 (by decide) ?_
  refine va_put (D := D) (ci := 5) (v := .int 1) (ty := .int) (C := RX6) (T := TX6) (N := 9) hx hb hts inlX6 tyX6 tyX6_ok nmX6 hown hK hP hD hS 0 rfl rfl 2 (by decide) (hts _ q_57) (fun _ h9 => h9) rfl (by decide +kernel) rfl rfl (Nat.le_of_ble_eq_true rfl) dX6_init_16 (fun H locs hP hD hS => ?_)
  replace hP : va_P D vwCl [(h0, .inr (5, [.int 0, .int 0, .int 1, .int 0, .null, .null, .null, .null, .null]))] H := hP
  replace hD : va_D A [(h0, .inr (5, [.int 0, .int 0, .int 1, .int 0, .null, .null, .null, .null, .null]))] := hD
  refine lv_aload_n hx hb dX6_init_19 rfl (lv_at hl 0 rfl) ?_
  refine lv_sipush (v := 256) hx hb dX6_init_20 (by decide) ?_
  refine va_newa (atype := .int) (ty := .int) (N' := 256) (a0 := (256, .inl (fun _ => 0))) hx hb (hts _ q_40) rfl hK hP hD hS hA (fun _ => rfl) (by decide) (by decide) (Nat.le_of_ble_eq_true rfl) (Nat.le_of_ble_eq_true rfl) (Nat.le_of_ble_eq_true rfl) dX6_init_23 (fun q1 g1 H hK hP hD hS => ?_)
  replace hP : va_P D vwCl [(h0, .inr (5, [.int 0, .int 0, .int 1, .int 0, .null, .null, .null, .null, .null])), (q1, .inl (g1, 256, .inl (fun _ => 0)))] H := hP
  replace hD : va_D A [(h0, .inr (5, [.int 0, .int 0, .int 1, .int 0, .null, .null, .null, .null, .null])), (q1, .inl (g1, 256, .inl (fun _ => 0)))] := hD
  replace hK : va_K D vwCl [(g1, .int)] s := hK
  refine va_putF (D := D) (ci := 5) (v := .ref q1) (ty := .array .int) (C := RX6) (T := TX6) (N := 9) hx hb hts inlX6 tyX6 tyX6_ok nmX6 hown hK hP hD hS 0 rfl rfl 4 (by decide) (hts _ q_58) (fun _ h9 => h9) rfl hin rfl (by decide +kernel) rfl rfl (Nat.le_of_ble_eq_true rfl) dX6_init_25 (fun H locs hP hD hS => ?_)
  replace hP : va_P D vwCl [(h0, .inr (5, [.int 0, .int 0, .int 1, .int 0, .ref q1, .null, .null, .null, .null])), (q1, .inl (g1, 256, .inl (fun _ => 0)))] H := hP
  replace hD : va_D A [(h0, .inr (5, [.int 0, .int 0, .int 1, .int 0, .ref q1, .null, .null, .null, .null])), (q1, .inl (g1, 256, .inl (fun _ => 0)))] := hD
  refine lv_aload_n hx hb dX6_init_28 rfl (lv_at hl 0 rfl) ?_
  refine lv_bipush (v := 72) hx hb dX6_init_29 (by decide) ?_
  refine va_newa (atype := .int) (ty := .int) (N' := 72) (a0 := (72, .inl (fun _ => 0))) hx hb (hts _ q_40) rfl hK hP hD hS hA (fun _ => rfl) (by decide) (by decide) (Nat.le_of_ble_eq_true rfl) (Nat.le_of_ble_eq_true rfl) (Nat.le_of_ble_eq_true rfl) dX6_init_31 (fun q2 g2 H hK hP hD hS => ?_)
  replace hP : va_P D vwCl [(h0, .inr (5, [.int 0, .int 0, .int 1, .int 0, .ref q1, .null, .null, .null, .null])), (q1, .inl (g1, 256, .inl (fun _ => 0))), (q2, .inl (g2, 72, .inl (fun _ => 0)))] H := hP
  replace hD : va_D A [(h0, .inr (5, [.int 0, .int 0, .int 1, .int 0, .ref q1, .null, .null, .null, .null])), (q1, .inl (g1, 256, .inl (fun _ => 0))), (q2, .inl (g2, 72, .inl (fun _ => 0)))] := hD
  replace hK : va_K D vwCl [(g1, .int), (g2, .int)] s := hK
  refine va_putF (D := D) (ci := 5) (v := .ref q2) (ty := .array .int) (C := RX6) (T := TX6) (N := 9) hx hb hts inlX6 tyX6 tyX6_ok nmX6 hown hK hP hD hS 0 rfl rfl 5 (by decide) (hts _ q_59) (fun _ h9 => h9) rfl hin rfl (by decide +kernel) rfl rfl (Nat.le_of_ble_eq_true rfl) dX6_init_33 (fun H locs hP hD hS => ?_)
  replace hP : va_P D vwCl [(h0, .inr (5, [.int 0, .int 0, .int 1, .int 0, .ref q1, .ref q2, .null, .null, .null])), (q1, .inl (g1, 256, .inl (fun _ => 0))), (q2, .inl (g2, 72, .inl (fun _ => 0)))] H := hP
  replace hD : va_D A [(h0, .inr (5, [.int 0, .int 0, .int 1, .int 0, .ref q1, .ref q2, .null, .null, .null])), (q1, .inl (g1, 256, .inl (fun _ => 0))), (q2, .inl (g2, 72, .inl (fun _ => 0)))] := hD
  refine lv_aload_n hx hb dX6_init_36 rfl (lv_at hl 0 rfl) ?_
  refine lv_sipush (v := 1536) hx hb dX6_init_37 (by decide) ?_
  refine va_newa (atype := .int) (ty := .int) (N' := 1536) (a0 := (1536, .inl (fun _ => 0))) hx hb (hts _ q_40) rfl hK hP hD hS hA (fun _ => rfl) (by decide) (by decide) (Nat.le_of_ble_eq_true rfl) (Nat.le_of_ble_eq_true rfl) (Nat.le_of_ble_eq_true rfl) dX6_init_40 (fun q3 g3 H hK hP hD hS => ?_)
  replace hP : va_P D vwCl [(h0, .inr (5, [.int 0, .int 0, .int 1, .int 0, .ref q1, .ref q2, .null, .null, .null])), (q1, .inl (g1, 256, .inl (fun _ => 0))), (q2, .inl (g2, 72, .inl (fun _ => 0))), (q3, .inl (g3, 1536, .inl (fun _ => 0)))] H := hP
  replace hD : va_D A [(h0, .inr (5, [.int 0, .int 0, .int 1, .int 0, .ref q1, .ref q2, .null, .null, .null])), (q1, .inl (g1, 256, .inl (fun _ => 0))), (q2, .inl (g2, 72, .inl (fun _ => 0))), (q3, .inl (g3, 1536, .inl (fun _ => 0)))] := hD
  replace hK : va_K D vwCl [(g1, .int), (g2, .int), (g3, .int)] s := hK
  refine va_putF (D := D) (ci := 5) (v := .ref q3) (ty := .array .int) (C := RX6) (T := TX6) (N := 9) hx hb hts inlX6 tyX6 tyX6_ok nmX6 hown hK hP hD hS 0 rfl rfl 6 (by decide) (hts _ q_60) (fun _ h9 => h9) rfl hin rfl (by decide +kernel) rfl rfl (Nat.le_of_ble_eq_true rfl) dX6_init_42 (fun H locs hP hD hS => ?_)
  replace hP : va_P D vwCl [(h0, .inr (5, [.int 0, .int 0, .int 1, .int 0, .ref q1, .ref q2, .ref q3, .null, .null])), (q1, .inl (g1, 256, .inl (fun _ => 0))), (q2, .inl (g2, 72, .inl (fun _ => 0))), (q3, .inl (g3, 1536, .inl (fun _ => 0)))] H := hP
  replace hD : va_D A [(h0, .inr (5, [.int 0, .int 0, .int 1, .int 0, .ref q1, .ref q2, .ref q3, .null, .null])), (q1, .inl (g1, 256, .inl (fun _ => 0))), (q2, .inl (g2, 72, .inl (fun _ => 0))), (q3, .inl (g3, 1536, .inl (fun _ => 0)))] := hD
  refine lv_aload_n hx hb dX6_init_45 rfl (lv_at hl 0 rfl) ?_
  refine lv_bipush (v := 16) hx hb dX6_init_46 (by decide) ?_
  refine va_newa (atype := .int) (ty := .int) (N' := 16) (a0 := (16, .inl (fun _ => 0))) hx hb (hts _ q_40) rfl hK hP hD hS hA (fun _ => rfl) (by decide) (by decide) (Nat.le_of_ble_eq_true rfl) (Nat.le_of_ble_eq_true rfl) (Nat.le_of_ble_eq_true rfl) dX6_init_48 (fun q4 g4 H hK hP hD hS => ?_)
  replace hP : va_P D vwCl [(h0, .inr (5, [.int 0, .int 0, .int 1, .int 0, .ref q1, .ref q2, .ref q3, .null, .null])), (q1, .inl (g1, 256, .inl (fun _ => 0))), (q2, .inl (g2, 72, .inl (fun _ => 0))), (q3, .inl (g3, 1536, .inl (fun _ => 0))), (q4, .inl (g4, 16, .inl (fun _ => 0)))] H := hP
  replace hD : va_D A [(h0, .inr (5, [.int 0, .int 0, .int 1, .int 0, .ref q1, .ref q2, .ref q3, .null, .null])), (q1, .inl (g1, 256, .inl (fun _ => 0))), (q2, .inl (g2, 72, .inl (fun _ => 0))), (q3, .inl (g3, 1536, .inl (fun _ => 0))), (q4, .inl (g4, 16, .inl (fun _ => 0)))] := hD
  replace hK : va_K D vwCl [(g1, .int), (g2, .int), (g3, .int), (g4, .int)] s := hK
  refine va_putF (D := D) (ci := 5) (v := .ref q4) (ty := .array .int) (C := RX6) (T := TX6) (N := 9) hx hb hts inlX6 tyX6 tyX6_ok nmX6 hown hK hP hD hS 0 rfl rfl 7 (by decide) (hts _ q_61) (fun _ h9 => h9) rfl hin rfl (by decide +kernel) rfl rfl (Nat.le_of_ble_eq_true rfl) dX6_init_50 (fun H locs hP hD hS => ?_)
  replace hP : va_P D vwCl [(h0, .inr (5, [.int 0, .int 0, .int 1, .int 0, .ref q1, .ref q2, .ref q3, .ref q4, .null])), (q1, .inl (g1, 256, .inl (fun _ => 0))), (q2, .inl (g2, 72, .inl (fun _ => 0))), (q3, .inl (g3, 1536, .inl (fun _ => 0))), (q4, .inl (g4, 16, .inl (fun _ => 0)))] H := hP
  replace hD : va_D A [(h0, .inr (5, [.int 0, .int 0, .int 1, .int 0, .ref q1, .ref q2, .ref q3, .ref q4, .null])), (q1, .inl (g1, 256, .inl (fun _ => 0))), (q2, .inl (g2, 72, .inl (fun _ => 0))), (q3, .inl (g3, 1536, .inl (fun _ => 0))), (q4, .inl (g4, 16, .inl (fun _ => 0)))] := hD
  refine lv_aload_n hx hb dX6_init_53 rfl (lv_at hl 0 rfl) ?_
  refine lv_bipush (v := 24) hx hb dX6_init_54 (by decide) ?_
  refine va_newa (atype := .int) (ty := .int) (N' := 24) (a0 := (24, .inl (fun _ => 0))) hx hb (hts _ q_40) rfl hK hP hD hS hA (fun _ => rfl) (by decide) (by decide) (Nat.le_of_ble_eq_true rfl) (Nat.le_of_ble_eq_true rfl) (Nat.le_of_ble_eq_true rfl) dX6_init_56 (fun q5 g5 H hK hP hD hS => ?_)
  replace hP : va_P D vwCl [(h0, .inr (5, [.int 0, .int 0, .int 1, .int 0, .ref q1, .ref q2, .ref q3, .ref q4, .null])), (q1, .inl (g1, 256, .inl (fun _ => 0))), (q2, .inl (g2, 72, .inl (fun _ => 0))), (q3, .inl (g3, 1536, .inl (fun _ => 0))), (q4, .inl (g4, 16, .inl (fun _ => 0))), (q5, .inl (g5, 24, .inl (fun _ => 0)))] H := hP
  replace hD : va_D A [(h0, .inr (5, [.int 0, .int 0, .int 1, .int 0, .ref q1, .ref q2, .ref q3, .ref q4, .null])), (q1, .inl (g1, 256, .inl (fun _ => 0))), (q2, .inl (g2, 72, .inl (fun _ => 0))), (q3, .inl (g3, 1536, .inl (fun _ => 0))), (q4, .inl (g4, 16, .inl (fun _ => 0))), (q5, .inl (g5, 24, .inl (fun _ => 0)))] := hD
  replace hK : va_K D vwCl [(g1, .int), (g2, .int), (g3, .int), (g4, .int), (g5, .int)] s := hK
  refine va_putF (D := D) (ci := 5) (v := .ref q5) (ty := .array .int) (C := RX6) (T := TX6) (N := 9) hx hb hts inlX6 tyX6 tyX6_ok nmX6 hown hK hP hD hS 0 rfl rfl 8 (by decide) (hts _ q_62) (fun _ h9 => h9) rfl hin rfl (by decide +kernel) rfl rfl (Nat.le_of_ble_eq_true rfl) dX6_init_58 (fun H locs hP hD hS => ?_)
  replace hP : va_P D vwCl [(h0, .inr (5, [.int 0, .int 0, .int 1, .int 0, .ref q1, .ref q2, .ref q3, .ref q4, .ref q5])), (q1, .inl (g1, 256, .inl (fun _ => 0))), (q2, .inl (g2, 72, .inl (fun _ => 0))), (q3, .inl (g3, 1536, .inl (fun _ => 0))), (q4, .inl (g4, 16, .inl (fun _ => 0))), (q5, .inl (g5, 24, .inl (fun _ => 0)))] H := hP
  replace hD : va_D A [(h0, .inr (5, [.int 0, .int 0, .int 1, .int 0, .ref q1, .ref q2, .ref q3, .ref q4, .ref q5])), (q1, .inl (g1, 256, .inl (fun _ => 0))), (q2, .inl (g2, 72, .inl (fun _ => 0))), (q3, .inl (g3, 1536, .inl (fun _ => 0))), (q4, .inl (g4, 16, .inl (fun _ => 0))), (q5, .inl (g5, 24, .inl (fun _ => 0)))] := hD
  exact W.vret hx hb hr (fun t ht hW => ⟨⟨(), rfl, trivial, (fun k => [q1, q2, q3, q4, q5].getD k 0), (fun k => [g1, g2, g3, g4, g5].getD k 0), by rw [ht]; exact hP, va_K.moved hW.alike hK, hD⟩, hS.F ht⟩) hS.2.2 dX6_init_61

def INI_X1 (h0 : Nat) (q : Nat → Nat) (g : Nat → ClassId) : va_W := [(h0, .inr (1, [.ref (q 0), .ref (q 1), .ref (q 2), .ref (q 3), .ref (q 4), .ref (q 5), .int 0])), ((q 0), .inl ((g 0), 256, .inl (fun _ => 0))), ((q 1), .inl ((g 1), 256, .inl (fun _ => 0))), ((q 2), .inl ((g 2), 80, .inl (fun _ => 0))), ((q 3), .inl ((g 3), 80, .inl (fun _ => 0))), ((q 4), .inl ((g 4), 80, .inl (fun _ => 0))), ((q 5), .inl ((g 5), 80, .inl (fun _ => 0)))]
def TYS_X1 (g : Nat → ClassId) : List (ClassId × FieldType) := [((g 0), .int), ((g 1), .int), ((g 2), .int), ((g 3), .int), ((g 4), .int), ((g 5), .int)]
abbrev rmi_X1 : Room := { frames := 1, cells := 6, slots := 832, locals := 12 }
set_option maxHeartbeats 4000000 in
set_option maxRecDepth 100000 in
theorem ci_X1 {l : Launch} {D : va_G} {h0 : Nat} (sz : Nat) : Met l yX1_init (Cond.code yX1_init cX1_init 1 none :: wU) rmi_X1 (va_Pc [.ref h0] (PreI D [(h0, .inr (1, [.null, .null, .null, .null, .null, .null, .int 0]))] sz (fun _ => True))) (va_Qv (fun (_ : Unit) => True) (PostI D (va_A [(h0, .inr (1, [.null, .null, .null, .null, .null, .null, .int 0]))] sz) (INI_X1 h0) TYS_X1) (va_A [(h0, .inr (1, [.null, .null, .null, .null, .null, .null, .int 0]))] sz)) 6 832 (va_A [(h0, .inr (1, [.null, .null, .null, .null, .null, .null, .int 0]))] sz) := by
  refine Met.ofW (cc := cX1_init) (maxL := 1) (ret := none) (by decide) rfl ?_
  intro p e s m args below meth c s₁ B hml hv
  obtain ⟨rfl, hsz, hP, hK, hD0, hE⟩ := hv
  have hx := B.exec
  have hb := B.bytes
  have hr := B.returns
  have hts0 := atoms_spec (ws := Cond.code yX1_init cX1_init 1 none :: wU) B.pre
  have hts : ∀ w ∈ wU, w.before [Value.ref h0].toArray s = true := fun w h => hts0 w (List.mem_cons_of_mem _ h)
  have hown : s.vm.findClass RX1 = some m.cls := findClass_of_methodNamed B.named
  have hlocks := B.notSynchronized
  have hin : meth.name = "<init>" := (name_of_methodNamed B.named B.method).1
  subst hsz
  have hD := hD0.self (sz := s.heap.size)
  generalize hAe : va_A [(h0, .inr (1, [.null, .null, .null, .null, .null, .null, .int 0]))] s.heap.size = A at hD ⊢
  have hA : ∀ q : Nat, s.heap.size ≤ q → A q := fun q h => by rw [← hAe]; exact Or.inr h
  have hS : va_S A s.heap s.heap [] := va_S.rf
  have hl := lv_entry ([.ref h0]) (n := 1) (Nat.le_of_ble_eq_true rfl)
  rw [lg_entry_eq]
  generalize (lg_sl ([.ref h0]) ++ List.replicate (1 - (lg_sl ([.ref h0])).length) Slot.unset).toArray = ls at hl ⊢
  replace hl : lv_has ls 1 [(0, .ref h0)] := hl
  refine lv_aload_n hx hb dX1_init_0 rfl (lv_at hl 0 rfl) ?_
  refine W.objInit hx hb hown (hts _ q_65) (hts _ q_10) (hts _ q_11) rfl (by rw [hml]; exact hl.1) rfl dX1_init_1 (Nat.le_of_ble_eq_true rfl) (Nat.le_of_ble_eq_true rfl) ?_
  refine W.eq (g2 := F0 m 4 ls []) rfl ?_
  refine lv_aload_n hx hb dX1_init_4 rfl (lv_at hl 0 rfl) ?_
  refine lv_sipush (v := 256) hx hb dX1_init_5 (by decide) ?_
  refine va_newa (atype := .int) (ty := .int) (N' := 256) (a0 := (256, .inl (fun _ => 0))) hx hb (hts _ q_40) rfl hK hP hD hS hA (fun _ => rfl) (by decide) (by decide) (Nat.le_of_ble_eq_true rfl) (Nat.le_of_ble_eq_true rfl) (Nat.le_of_ble_eq_true rfl) dX1_init_8 (fun q1 g1 H hK hP hD hS => ?_)
  replace hP : va_P D vwCl [(h0, .inr (1, [.null, .null, .null, .null, .null, .null, .int 0])), (q1, .inl (g1, 256, .inl (fun _ => 0)))] H := hP
  replace hD : va_D A [(h0, .inr (1, [.null, .null, .null, .null, .null, .null, .int 0])), (q1, .inl (g1, 256, .inl (fun _ => 0)))] := hD
  replace hK : va_K D vwCl [(g1, .int)] s := hK
  refine va_putF (D := D) (ci := 1) (v := .ref q1) (ty := .array .int) (C := RX1) (T := TX1) (N := 7) hx hb hts inlX1 tyX1 tyX1_ok nmX1 hown hK hP hD hS 0 rfl rfl 0 (by decide) (hts _ q_66) (fun _ h9 => h9) rfl hin rfl (by decide +kernel) rfl rfl (Nat.le_of_ble_eq_true rfl) dX1_init_10 (fun H locs hP hD hS => ?_)
  replace hP : va_P D vwCl [(h0, .inr (1, [.ref q1, .null, .null, .null, .null, .null, .int 0])), (q1, .inl (g1, 256, .inl (fun _ => 0)))] H := hP
  replace hD : va_D A [(h0, .inr (1, [.ref q1, .null, .null, .null, .null, .null, .int 0])), (q1, .inl (g1, 256, .inl (fun _ => 0)))] := hD
  refine lv_aload_n hx hb dX1_init_13 rfl (lv_at hl 0 rfl) ?_
  refine lv_sipush (v := 256) hx hb dX1_init_14 (by decide) ?_
  refine va_newa (atype := .int) (ty := .int) (N' := 256) (a0 := (256, .inl (fun _ => 0))) hx hb (hts _ q_40) rfl hK hP hD hS hA (fun _ => rfl) (by decide) (by decide) (Nat.le_of_ble_eq_true rfl) (Nat.le_of_ble_eq_true rfl) (Nat.le_of_ble_eq_true rfl) dX1_init_17 (fun q2 g2 H hK hP hD hS => ?_)
  replace hP : va_P D vwCl [(h0, .inr (1, [.ref q1, .null, .null, .null, .null, .null, .int 0])), (q1, .inl (g1, 256, .inl (fun _ => 0))), (q2, .inl (g2, 256, .inl (fun _ => 0)))] H := hP
  replace hD : va_D A [(h0, .inr (1, [.ref q1, .null, .null, .null, .null, .null, .int 0])), (q1, .inl (g1, 256, .inl (fun _ => 0))), (q2, .inl (g2, 256, .inl (fun _ => 0)))] := hD
  replace hK : va_K D vwCl [(g1, .int), (g2, .int)] s := hK
  refine va_putF (D := D) (ci := 1) (v := .ref q2) (ty := .array .int) (C := RX1) (T := TX1) (N := 7) hx hb hts inlX1 tyX1 tyX1_ok nmX1 hown hK hP hD hS 0 rfl rfl 1 (by decide) (hts _ q_67) (fun _ h9 => h9) rfl hin rfl (by decide +kernel) rfl rfl (Nat.le_of_ble_eq_true rfl) dX1_init_19 (fun H locs hP hD hS => ?_)
  replace hP : va_P D vwCl [(h0, .inr (1, [.ref q1, .ref q2, .null, .null, .null, .null, .int 0])), (q1, .inl (g1, 256, .inl (fun _ => 0))), (q2, .inl (g2, 256, .inl (fun _ => 0)))] H := hP
  replace hD : va_D A [(h0, .inr (1, [.ref q1, .ref q2, .null, .null, .null, .null, .int 0])), (q1, .inl (g1, 256, .inl (fun _ => 0))), (q2, .inl (g2, 256, .inl (fun _ => 0)))] := hD
  refine lv_aload_n hx hb dX1_init_22 rfl (lv_at hl 0 rfl) ?_
  refine lv_bipush (v := 80) hx hb dX1_init_23 (by decide) ?_
  refine va_newa (atype := .int) (ty := .int) (N' := 80) (a0 := (80, .inl (fun _ => 0))) hx hb (hts _ q_40) rfl hK hP hD hS hA (fun _ => rfl) (by decide) (by decide) (Nat.le_of_ble_eq_true rfl) (Nat.le_of_ble_eq_true rfl) (Nat.le_of_ble_eq_true rfl) dX1_init_25 (fun q3 g3 H hK hP hD hS => ?_)
  replace hP : va_P D vwCl [(h0, .inr (1, [.ref q1, .ref q2, .null, .null, .null, .null, .int 0])), (q1, .inl (g1, 256, .inl (fun _ => 0))), (q2, .inl (g2, 256, .inl (fun _ => 0))), (q3, .inl (g3, 80, .inl (fun _ => 0)))] H := hP
  replace hD : va_D A [(h0, .inr (1, [.ref q1, .ref q2, .null, .null, .null, .null, .int 0])), (q1, .inl (g1, 256, .inl (fun _ => 0))), (q2, .inl (g2, 256, .inl (fun _ => 0))), (q3, .inl (g3, 80, .inl (fun _ => 0)))] := hD
  replace hK : va_K D vwCl [(g1, .int), (g2, .int), (g3, .int)] s := hK
  refine va_putF (D := D) (ci := 1) (v := .ref q3) (ty := .array .int) (C := RX1) (T := TX1) (N := 7) hx hb hts inlX1 tyX1 tyX1_ok nmX1 hown hK hP hD hS 0 rfl rfl 2 (by decide) (hts _ q_68) (fun _ h9 => h9) rfl hin rfl (by decide +kernel) rfl rfl (Nat.le_of_ble_eq_true rfl) dX1_init_27 (fun H locs hP hD hS => ?_)
  replace hP : va_P D vwCl [(h0, .inr (1, [.ref q1, .ref q2, .ref q3, .null, .null, .null, .int 0])), (q1, .inl (g1, 256, .inl (fun _ => 0))), (q2, .inl (g2, 256, .inl (fun _ => 0))), (q3, .inl (g3, 80, .inl (fun _ => 0)))] H := hP
  replace hD : va_D A [(h0, .inr (1, [.ref q1, .ref q2, .ref q3, .null, .null, .null, .int 0])), (q1, .inl (g1, 256, .inl (fun _ => 0))), (q2, .inl (g2, 256, .inl (fun _ => 0))), (q3, .inl (g3, 80, .inl (fun _ => 0)))] := hD
  refine lv_aload_n hx hb dX1_init_30 rfl (lv_at hl 0 rfl) ?_
  refine lv_bipush (v := 80) hx hb dX1_init_31 (by decide) ?_
  refine va_newa (atype := .int) (ty := .int) (N' := 80) (a0 := (80, .inl (fun _ => 0))) hx hb (hts _ q_40) rfl hK hP hD hS hA (fun _ => rfl) (by decide) (by decide) (Nat.le_of_ble_eq_true rfl) (Nat.le_of_ble_eq_true rfl) (Nat.le_of_ble_eq_true rfl) dX1_init_33 (fun q4 g4 H hK hP hD hS => ?_)
  replace hP : va_P D vwCl [(h0, .inr (1, [.ref q1, .ref q2, .ref q3, .null, .null, .null, .int 0])), (q1, .inl (g1, 256, .inl (fun _ => 0))), (q2, .inl (g2, 256, .inl (fun _ => 0))), (q3, .inl (g3, 80, .inl (fun _ => 0))), (q4, .inl (g4, 80, .inl (fun _ => 0)))] H := hP
  replace hD : va_D A [(h0, .inr (1, [.ref q1, .ref q2, .ref q3, .null, .null, .null, .int 0])), (q1, .inl (g1, 256, .inl (fun _ => 0))), (q2, .inl (g2, 256, .inl (fun _ => 0))), (q3, .inl (g3, 80, .inl (fun _ => 0))), (q4, .inl (g4, 80, .inl (fun _ => 0)))] := hD
  replace hK : va_K D vwCl [(g1, .int), (g2, .int), (g3, .int), (g4, .int)] s := hK
  refine va_putF (D := D) (ci := 1) (v := .ref q4) (ty := .array .int) (C := RX1) (T := TX1) (N := 7) hx hb hts inlX1 tyX1 tyX1_ok nmX1 hown hK hP hD hS 0 rfl rfl 3 (by decide) (hts _ q_69) (fun _ h9 => h9) rfl hin rfl (by decide +kernel) rfl rfl (Nat.le_of_ble_eq_true rfl) dX1_init_35 (fun H locs hP hD hS => ?_)
  replace hP : va_P D vwCl [(h0, .inr (1, [.ref q1, .ref q2, .ref q3, .ref q4, .null, .null, .int 0])), (q1, .inl (g1, 256, .inl (fun _ => 0))), (q2, .inl (g2, 256, .inl (fun _ => 0))), (q3, .inl (g3, 80, .inl (fun _ => 0))), (q4, .inl (g4, 80, .inl (fun _ => 0)))] H := hP
  replace hD : va_D A [(h0, .inr (1, [.ref q1, .ref q2, .ref q3, .ref q4, .null, .null, .int 0])), (q1, .inl (g1, 256, .inl (fun _ => 0))), (q2, .inl (g2, 256, .inl (fun _ => 0))), (q3, .inl (g3, 80, .inl (fun _ => 0))), (q4, .inl (g4, 80, .inl (fun _ => 0)))] := hD
  refine lv_aload_n hx hb dX1_init_38 rfl (lv_at hl 0 rfl) ?_
  refine lv_bipush (v := 80) hx hb dX1_init_39 (by decide) ?_
  refine va_newa (atype := .int) (ty := .int) (N' := 80) (a0 := (80, .inl (fun _ => 0))) hx hb (hts _ q_40) rfl hK hP hD hS hA (fun _ => rfl) (by decide) (by decide) (Nat.le_of_ble_eq_true rfl) (Nat.le_of_ble_eq_true rfl) (Nat.le_of_ble_eq_true rfl) dX1_init_41 (fun q5 g5 H hK hP hD hS => ?_)
  replace hP : va_P D vwCl [(h0, .inr (1, [.ref q1, .ref q2, .ref q3, .ref q4, .null, .null, .int 0])), (q1, .inl (g1, 256, .inl (fun _ => 0))), (q2, .inl (g2, 256, .inl (fun _ => 0))), (q3, .inl (g3, 80, .inl (fun _ => 0))), (q4, .inl (g4, 80, .inl (fun _ => 0))), (q5, .inl (g5, 80, .inl (fun _ => 0)))] H := hP
  replace hD : va_D A [(h0, .inr (1, [.ref q1, .ref q2, .ref q3, .ref q4, .null, .null, .int 0])), (q1, .inl (g1, 256, .inl (fun _ => 0))), (q2, .inl (g2, 256, .inl (fun _ => 0))), (q3, .inl (g3, 80, .inl (fun _ => 0))), (q4, .inl (g4, 80, .inl (fun _ => 0))), (q5, .inl (g5, 80, .inl (fun _ => 0)))] := hD
  replace hK : va_K D vwCl [(g1, .int), (g2, .int), (g3, .int), (g4, .int), (g5, .int)] s := hK
  refine va_putF (D := D) (ci := 1) (v := .ref q5) (ty := .array .int) (C := RX1) (T := TX1) (N := 7) hx hb hts inlX1 tyX1 tyX1_ok nmX1 hown hK hP hD hS 0 rfl rfl 4 (by decide) (hts _ q_70) (fun _ h9 => h9) rfl hin rfl (by decide +kernel) rfl rfl (Nat.le_of_ble_eq_true rfl) dX1_init_43 (fun H locs hP hD hS => ?_)
  replace hP : va_P D vwCl [(h0, .inr (1, [.ref q1, .ref q2, .ref q3, .ref q4, .ref q5, .null, .int 0])), (q1, .inl (g1, 256, .inl (fun _ => 0))), (q2, .inl (g2, 256, .inl (fun _ => 0))), (q3, .inl (g3, 80, .inl (fun _ => 0))), (q4, .inl (g4, 80, .inl (fun _ => 0))), (q5, .inl (g5, 80, .inl (fun _ => 0)))] H := hP
  replace hD : va_D A [(h0, .inr (1, [.ref q1, .ref q2, .ref q3, .ref q4, .ref q5, .null, .int 0])), (q1, .inl (g1, 256, .inl (fun _ => 0))), (q2, .inl (g2, 256, .inl (fun _ => 0))), (q3, .inl (g3, 80, .inl (fun _ => 0))), (q4, .inl (g4, 80, .inl (fun _ => 0))), (q5, .inl (g5, 80, .inl (fun _ => 0)))] := hD
  refine lv_aload_n hx hb dX1_init_46 rfl (lv_at hl 0 rfl) ?_
  refine lv_bipush (v := 80) hx hb dX1_init_47 (by decide) ?_
  refine va_newa (atype := .int) (ty := .int) (N' := 80) (a0 := (80, .inl (fun _ => 0))) hx hb (hts _ q_40) rfl hK hP hD hS hA (fun _ => rfl) (by decide) (by decide) (Nat.le_of_ble_eq_true rfl) (Nat.le_of_ble_eq_true rfl) (Nat.le_of_ble_eq_true rfl) dX1_init_49 (fun q6 g6 H hK hP hD hS => ?_)
  replace hP : va_P D vwCl [(h0, .inr (1, [.ref q1, .ref q2, .ref q3, .ref q4, .ref q5, .null, .int 0])), (q1, .inl (g1, 256, .inl (fun _ => 0))), (q2, .inl (g2, 256, .inl (fun _ => 0))), (q3, .inl (g3, 80, .inl (fun _ => 0))), (q4, .inl (g4, 80, .inl (fun _ => 0))), (q5, .inl (g5, 80, .inl (fun _ => 0))), (q6, .inl (g6, 80, .inl (fun _ => 0)))] H := hP
  replace hD : va_D A [(h0, .inr (1, [.ref q1, .ref q2, .ref q3, .ref q4, .ref q5, .null, .int 0])), (q1, .inl (g1, 256, .inl (fun _ => 0))), (q2, .inl (g2, 256, .inl (fun _ => 0))), (q3, .inl (g3, 80, .inl (fun _ => 0))), (q4, .inl (g4, 80, .inl (fun _ => 0))), (q5, .inl (g5, 80, .inl (fun _ => 0))), (q6, .inl (g6, 80, .inl (fun _ => 0)))] := hD
  replace hK : va_K D vwCl [(g1, .int), (g2, .int), (g3, .int), (g4, .int), (g5, .int), (g6, .int)] s := hK
  refine va_putF (D := D) (ci := 1) (v := .ref q6) (ty := .array .int) (C := RX1) (T := TX1) (N := 7) hx hb hts inlX1 tyX1 tyX1_ok nmX1 hown hK hP hD hS 0 rfl rfl 5 (by decide) (hts _ q_71) (fun _ h9 => h9) rfl hin rfl (by decide +kernel) rfl rfl (Nat.le_of_ble_eq_true rfl) dX1_init_51 (fun H locs hP hD hS => ?_)
  replace hP : va_P D vwCl [(h0, .inr (1, [.ref q1, .ref q2, .ref q3, .ref q4, .ref q5, .ref q6, .int 0])), (q1, .inl (g1, 256, .inl (fun _ => 0))), (q2, .inl (g2, 256, .inl (fun _ => 0))), (q3, .inl (g3, 80, .inl (fun _ => 0))), (q4, .inl (g4, 80, .inl (fun _ => 0))), (q5, .inl (g5, 80, .inl (fun _ => 0))), (q6, .inl (g6, 80, .inl (fun _ => 0)))] H := hP
  replace hD : va_D A [(h0, .inr (1, [.ref q1, .ref q2, .ref q3, .ref q4, .ref q5, .ref q6, .int 0])), (q1, .inl (g1, 256, .inl (fun _ => 0))), (q2, .inl (g2, 256, .inl (fun _ => 0))), (q3, .inl (g3, 80, .inl (fun _ => 0))), (q4, .inl (g4, 80, .inl (fun _ => 0))), (q5, .inl (g5, 80, .inl (fun _ => 0))), (q6, .inl (g6, 80, .inl (fun _ => 0)))] := hD
  exact W.vret hx hb hr (fun t ht hW => ⟨⟨(), rfl, trivial, (fun k => [q1, q2, q3, q4, q5, q6].getD k 0), (fun k => [g1, g2, g3, g4, g5, g6].getD k 0), by rw [ht]; exact hP, va_K.moved hW.alike hK, hD⟩, hS.F ht⟩) hS.2.2 dX1_init_54

def INI_X0 (h0 : Nat) (q : Nat → Nat) (g : Nat → ClassId) : va_W := [(h0, .inr (0, [.ref (q 0), .ref (q 1), .int 0, .int (-9), .int 0, .ref (q 2), .ref (q 3), .long 0])), ((q 0), .inl ((g 0), 24, .inr (.inl (fun _ => 0)))), ((q 1), .inl ((g 1), 24, .inr (.inl (fun _ => 0)))), ((q 2), .inl ((g 2), 50, .inr (.inl (fun _ => 0)))), ((q 3), .inl ((g 3), 50, .inl (fun _ => 0)))]
def TYS_X0 (g : Nat → ClassId) : List (ClassId × FieldType) := [((g 0), .long), ((g 1), .long), ((g 2), .long), ((g 3), .int)]
abbrev rmi_X0 : Room := { frames := 1, cells := 4, slots := 148, locals := 12 }
set_option maxHeartbeats 4000000 in
set_option maxRecDepth 100000 in
theorem ci_X0 {l : Launch} {D : va_G} {h0 : Nat} (sz : Nat) : Met l yX0_init (Cond.code yX0_init cX0_init 1 none :: wU) rmi_X0 (va_Pc [.ref h0] (PreI D [(h0, .inr (0, [.null, .null, .int 0, .int 0, .int 0, .null, .null, .long 0]))] sz (fun _ => True))) (va_Qv (fun (_ : Unit) => True) (PostI D (va_A [(h0, .inr (0, [.null, .null, .int 0, .int 0, .int 0, .null, .null, .long 0]))] sz) (INI_X0 h0) TYS_X0) (va_A [(h0, .inr (0, [.null, .null, .int 0, .int 0, .int 0, .null, .null, .long 0]))] sz)) 4 148 (va_A [(h0, .inr (0, [.null, .null, .int 0, .int 0, .int 0, .null, .null, .long 0]))] sz) := by
  refine Met.ofW (cc := cX0_init) (maxL := 1) (ret := none) (by decide) rfl ?_
  intro p e s m args below meth c s₁ B hml hv
  obtain ⟨rfl, hsz, hP, hK, hD0, hE⟩ := hv
  have hx := B.exec
  have hb := B.bytes
  have hr := B.returns
  have hts0 := atoms_spec (ws := Cond.code yX0_init cX0_init 1 none :: wU) B.pre
  have hts : ∀ w ∈ wU, w.before [Value.ref h0].toArray s = true := fun w h => hts0 w (List.mem_cons_of_mem _ h)
  have hown : s.vm.findClass RX0 = some m.cls := findClass_of_methodNamed B.named
  have hlocks := B.notSynchronized
  have hin : meth.name = "<init>" := (name_of_methodNamed B.named B.method).1
  subst hsz
  have hD := hD0.self (sz := s.heap.size)
  generalize hAe : va_A [(h0, .inr (0, [.null, .null, .int 0, .int 0, .int 0, .null, .null, .long 0]))] s.heap.size = A at hD ⊢
  have hA : ∀ q : Nat, s.heap.size ≤ q → A q := fun q h => by rw [← hAe]; exact Or.inr h
  have hS : va_S A s.heap s.heap [] := va_S.rf
  have hl := lv_entry ([.ref h0]) (n := 1) (Nat.le_of_ble_eq_true rfl)
  rw [lg_entry_eq]
  generalize (lg_sl ([.ref h0]) ++ List.replicate (1 - (lg_sl ([.ref h0])).length) Slot.unset).toArray = ls at hl ⊢
  replace hl : lv_has ls 1 [(0, .ref h0)] := hl
  refine lv_aload_n hx hb dX0_init_0 rfl (lv_at hl 0 rfl) ?_
  refine W.objInit hx hb hown (hts _ q_74) (hts _ q_10) (hts _ q_11) rfl (by rw [hml]; exact hl.1) rfl dX0_init_1 (Nat.le_of_ble_eq_true rfl) (Nat.le_of_ble_eq_true rfl) ?_
  refine W.eq (g2 := F0 m 4 ls []) rfl ?_
  refine lv_aload_n hx hb dX0_init_4 rfl (lv_at hl 0 rfl) ?_
  refine lv_bipush (v := 24) hx hb dX0_init_5 (by decide) ?_
  refine va_newa (atype := .long) (ty := .long) (N' := 24) (a0 := (24, .inr (.inl (fun _ => 0)))) hx hb (hts _ q_75) rfl hK hP hD hS hA (fun _ => rfl) (by decide) (by decide) (Nat.le_of_ble_eq_true rfl) (Nat.le_of_ble_eq_true rfl) (Nat.le_of_ble_eq_true rfl) dX0_init_7 (fun q1 g1 H hK hP hD hS => ?_)
  replace hP : va_P D vwCl [(h0, .inr (0, [.null, .null, .int 0, .int 0, .int 0, .null, .null, .long 0])), (q1, .inl (g1, 24, .inr (.inl (fun _ => 0))))] H := hP
  replace hD : va_D A [(h0, .inr (0, [.null, .null, .int 0, .int 0, .int 0, .null, .null, .long 0])), (q1, .inl (g1, 24, .inr (.inl (fun _ => 0))))] := hD
  replace hK : va_K D vwCl [(g1, .long)] s := hK
  refine va_putF (D := D) (ci := 0) (v := .ref q1) (ty := .array .long) (C := RX0) (T := TX0) (N := 8) hx hb hts inlX0 tyX0 tyX0_ok nmX0 hown hK hP hD hS 0 rfl rfl 0 (by decide) (hts _ q_76) (fun _ h9 => h9) rfl hin rfl (by decide +kernel) rfl rfl (Nat.le_of_ble_eq_true rfl) dX0_init_9 (fun H locs hP hD hS => ?_)
  replace hP : va_P D vwCl [(h0, .inr (0, [.ref q1, .null, .int 0, .int 0, .int 0, .null, .null, .long 0])), (q1, .inl (g1, 24, .inr (.inl (fun _ => 0))))] H := hP
  replace hD : va_D A [(h0, .inr (0, [.ref q1, .null, .int 0, .int 0, .int 0, .null, .null, .long 0])), (q1, .inl (g1, 24, .inr (.inl (fun _ => 0))))] := hD
  refine lv_aload_n hx hb dX0_init_12 rfl (lv_at hl 0 rfl) ?_
  refine lv_bipush (v := 24) hx hb dX0_init_13 (by decide) ?_
  refine va_newa (atype := .long) (ty := .long) (N' := 24) (a0 := (24, .inr (.inl (fun _ => 0)))) hx hb (hts _ q_75) rfl hK hP hD hS hA (fun _ => rfl) (by decide) (by decide) (Nat.le_of_ble_eq_true rfl) (Nat.le_of_ble_eq_true rfl) (Nat.le_of_ble_eq_true rfl) dX0_init_15 (fun q2 g2 H hK hP hD hS => ?_)
  replace hP : va_P D vwCl [(h0, .inr (0, [.ref q1, .null, .int 0, .int 0, .int 0, .null, .null, .long 0])), (q1, .inl (g1, 24, .inr (.inl (fun _ => 0)))), (q2, .inl (g2, 24, .inr (.inl (fun _ => 0))))] H := hP
  replace hD : va_D A [(h0, .inr (0, [.ref q1, .null, .int 0, .int 0, .int 0, .null, .null, .long 0])), (q1, .inl (g1, 24, .inr (.inl (fun _ => 0)))), (q2, .inl (g2, 24, .inr (.inl (fun _ => 0))))] := hD
  replace hK : va_K D vwCl [(g1, .long), (g2, .long)] s := hK
  refine va_putF (D := D) (ci := 0) (v := .ref q2) (ty := .array .long) (C := RX0) (T := TX0) (N := 8) hx hb hts inlX0 tyX0 tyX0_ok nmX0 hown hK hP hD hS 0 rfl rfl 1 (by decide) (hts _ q_77) (fun _ h9 => h9) rfl hin rfl (by decide +kernel) rfl rfl (Nat.le_of_ble_eq_true rfl) dX0_init_17 (fun H locs hP hD hS => ?_)
  replace hP : va_P D vwCl [(h0, .inr (0, [.ref q1, .ref q2, .int 0, .int 0, .int 0, .null, .null, .long 0])), (q1, .inl (g1, 24, .inr (.inl (fun _ => 0)))), (q2, .inl (g2, 24, .inr (.inl (fun _ => 0))))] H := hP
  replace hD : va_D A [(h0, .inr (0, [.ref q1, .ref q2, .int 0, .int 0, .int 0, .null, .null, .long 0])), (q1, .inl (g1, 24, .inr (.inl (fun _ => 0)))), (q2, .inl (g2, 24, .inr (.inl (fun _ => 0))))] := hD
  refine lv_aload_n hx hb dX0_init_20 rfl (lv_at hl 0 rfl) ?_
  refine lv_bipush (v := -9) hx hb dX0_init_21 (by decide) ?_
  refine va_put (D := D) (ci := 0) (v := .int (-9)) (ty := .int) (C := RX0) (T := TX0) (N := 8) hx hb hts inlX0 tyX0 tyX0_ok nmX0 hown hK hP hD hS 0 rfl rfl 3 (by decide) (hts _ q_78) (fun _ h9 => h9) rfl (by decide +kernel) rfl rfl (Nat.le_of_ble_eq_true rfl) dX0_init_23 (fun H locs hP hD hS => ?_)
  replace hP : va_P D vwCl [(h0, .inr (0, [.ref q1, .ref q2, .int 0, .int (-9), .int 0, .null, .null, .long 0])), (q1, .inl (g1, 24, .inr (.inl (fun _ => 0)))), (q2, .inl (g2, 24, .inr (.inl (fun _ => 0))))] H := hP
  replace hD : va_D A [(h0, .inr (0, [.ref q1, .ref q2, .int 0, .int (-9), .int 0, .null, .null, .long 0])), (q1, .inl (g1, 24, .inr (.inl (fun _ => 0)))), (q2, .inl (g2, 24, .inr (.inl (fun _ => 0))))] := hD
  refine lv_aload_n hx hb dX0_init_26 rfl (lv_at hl 0 rfl) ?_
  refine lv_bipush (v := 50) hx hb dX0_init_27 (by decide) ?_
  refine va_newa (atype := .long) (ty := .long) (N' := 50) (a0 := (50, .inr (.inl (fun _ => 0)))) hx hb (hts _ q_75) rfl hK hP hD hS hA (fun _ => rfl) (by decide) (by decide) (Nat.le_of_ble_eq_true rfl) (Nat.le_of_ble_eq_true rfl) (Nat.le_of_ble_eq_true rfl) dX0_init_29 (fun q3 g3 H hK hP hD hS => ?_)
  replace hP : va_P D vwCl [(h0, .inr (0, [.ref q1, .ref q2, .int 0, .int (-9), .int 0, .null, .null, .long 0])), (q1, .inl (g1, 24, .inr (.inl (fun _ => 0)))), (q2, .inl (g2, 24, .inr (.inl (fun _ => 0)))), (q3, .inl (g3, 50, .inr (.inl (fun _ => 0))))] H := hP
  replace hD : va_D A [(h0, .inr (0, [.ref q1, .ref q2, .int 0, .int (-9), .int 0, .null, .null, .long 0])), (q1, .inl (g1, 24, .inr (.inl (fun _ => 0)))), (q2, .inl (g2, 24, .inr (.inl (fun _ => 0)))), (q3, .inl (g3, 50, .inr (.inl (fun _ => 0))))] := hD
  replace hK : va_K D vwCl [(g1, .long), (g2, .long), (g3, .long)] s := hK
  refine va_putF (D := D) (ci := 0) (v := .ref q3) (ty := .array .long) (C := RX0) (T := TX0) (N := 8) hx hb hts inlX0 tyX0 tyX0_ok nmX0 hown hK hP hD hS 0 rfl rfl 5 (by decide) (hts _ q_79) (fun _ h9 => h9) rfl hin rfl (by decide +kernel) rfl rfl (Nat.le_of_ble_eq_true rfl) dX0_init_31 (fun H locs hP hD hS => ?_)
  replace hP : va_P D vwCl [(h0, .inr (0, [.ref q1, .ref q2, .int 0, .int (-9), .int 0, .ref q3, .null, .long 0])), (q1, .inl (g1, 24, .inr (.inl (fun _ => 0)))), (q2, .inl (g2, 24, .inr (.inl (fun _ => 0)))), (q3, .inl (g3, 50, .inr (.inl (fun _ => 0))))] H := hP
  replace hD : va_D A [(h0, .inr (0, [.ref q1, .ref q2, .int 0, .int (-9), .int 0, .ref q3, .null, .long 0])), (q1, .inl (g1, 24, .inr (.inl (fun _ => 0)))), (q2, .inl (g2, 24, .inr (.inl (fun _ => 0)))), (q3, .inl (g3, 50, .inr (.inl (fun _ => 0))))] := hD
  refine lv_aload_n hx hb dX0_init_34 rfl (lv_at hl 0 rfl) ?_
  refine lv_bipush (v := 50) hx hb dX0_init_35 (by decide) ?_
  refine va_newa (atype := .int) (ty := .int) (N' := 50) (a0 := (50, .inl (fun _ => 0))) hx hb (hts _ q_40) rfl hK hP hD hS hA (fun _ => rfl) (by decide) (by decide) (Nat.le_of_ble_eq_true rfl) (Nat.le_of_ble_eq_true rfl) (Nat.le_of_ble_eq_true rfl) dX0_init_37 (fun q4 g4 H hK hP hD hS => ?_)
  replace hP : va_P D vwCl [(h0, .inr (0, [.ref q1, .ref q2, .int 0, .int (-9), .int 0, .ref q3, .null, .long 0])), (q1, .inl (g1, 24, .inr (.inl (fun _ => 0)))), (q2, .inl (g2, 24, .inr (.inl (fun _ => 0)))), (q3, .inl (g3, 50, .inr (.inl (fun _ => 0)))), (q4, .inl (g4, 50, .inl (fun _ => 0)))] H := hP
  replace hD : va_D A [(h0, .inr (0, [.ref q1, .ref q2, .int 0, .int (-9), .int 0, .ref q3, .null, .long 0])), (q1, .inl (g1, 24, .inr (.inl (fun _ => 0)))), (q2, .inl (g2, 24, .inr (.inl (fun _ => 0)))), (q3, .inl (g3, 50, .inr (.inl (fun _ => 0)))), (q4, .inl (g4, 50, .inl (fun _ => 0)))] := hD
  replace hK : va_K D vwCl [(g1, .long), (g2, .long), (g3, .long), (g4, .int)] s := hK
  refine va_putF (D := D) (ci := 0) (v := .ref q4) (ty := .array .int) (C := RX0) (T := TX0) (N := 8) hx hb hts inlX0 tyX0 tyX0_ok nmX0 hown hK hP hD hS 0 rfl rfl 6 (by decide) (hts _ q_80) (fun _ h9 => h9) rfl hin rfl (by decide +kernel) rfl rfl (Nat.le_of_ble_eq_true rfl) dX0_init_39 (fun H locs hP hD hS => ?_)
  replace hP : va_P D vwCl [(h0, .inr (0, [.ref q1, .ref q2, .int 0, .int (-9), .int 0, .ref q3, .ref q4, .long 0])), (q1, .inl (g1, 24, .inr (.inl (fun _ => 0)))), (q2, .inl (g2, 24, .inr (.inl (fun _ => 0)))), (q3, .inl (g3, 50, .inr (.inl (fun _ => 0)))), (q4, .inl (g4, 50, .inl (fun _ => 0)))] H := hP
  replace hD : va_D A [(h0, .inr (0, [.ref q1, .ref q2, .int 0, .int (-9), .int 0, .ref q3, .ref q4, .long 0])), (q1, .inl (g1, 24, .inr (.inl (fun _ => 0)))), (q2, .inl (g2, 24, .inr (.inl (fun _ => 0)))), (q3, .inl (g3, 50, .inr (.inl (fun _ => 0)))), (q4, .inl (g4, 50, .inl (fun _ => 0)))] := hD
  exact W.vret hx hb hr (fun t ht hW => ⟨⟨(), rfl, trivial, (fun k => [q1, q2, q3, q4].getD k 0), (fun k => [g1, g2, g3, g4].getD k 0), by rw [ht]; exact hP, va_K.moved hW.alike hK, hD⟩, hS.F ht⟩) hS.2.2 dX0_init_42

def INI_X5 (h0 : Nat) (q : Nat → Nat) (g : Nat → ClassId) : va_W := [(h0, .inr (4, [.ref (q 0), .ref (q 1), .int 0, .int 0, .int 0])), ((q 0), .inl ((g 0), 80, .inl (fun _ => 0))), ((q 1), .inl ((g 1), 80, .inr (.inl (fun _ => 0))))]
def TYS_X5 (g : Nat → ClassId) : List (ClassId × FieldType) := [((g 0), .int), ((g 1), .long)]
abbrev rmi_X5 : Room := { frames := 1, cells := 2, slots := 160, locals := 12 }
set_option maxHeartbeats 4000000 in
set_option maxRecDepth 100000 in
theorem ci_X5 {l : Launch} {D : va_G} {h0 : Nat} (sz : Nat) : Met l yX5_init (Cond.code yX5_init cX5_init 1 none :: wU) rmi_X5 (va_Pc [.ref h0] (PreI D [(h0, .inr (4, [.null, .null, .int 0, .int 0, .int 0]))] sz (fun _ => True))) (va_Qv (fun (_ : Unit) => True) (PostI D (va_A [(h0, .inr (4, [.null, .null, .int 0, .int 0, .int 0]))] sz) (INI_X5 h0) TYS_X5) (va_A [(h0, .inr (4, [.null, .null, .int 0, .int 0, .int 0]))] sz)) 2 160 (va_A [(h0, .inr (4, [.null, .null, .int 0, .int 0, .int 0]))] sz) := by
  refine Met.ofW (cc := cX5_init) (maxL := 1) (ret := none) (by decide) rfl ?_
  intro p e s m args below meth c s₁ B hml hv
  obtain ⟨rfl, hsz, hP, hK, hD0, hE⟩ := hv
  have hx := B.exec
  have hb := B.bytes
  have hr := B.returns
  have hts0 := atoms_spec (ws := Cond.code yX5_init cX5_init 1 none :: wU) B.pre
  have hts : ∀ w ∈ wU, w.before [Value.ref h0].toArray s = true := fun w h => hts0 w (List.mem_cons_of_mem _ h)
  have hown : s.vm.findClass RX5 = some m.cls := findClass_of_methodNamed B.named
  have hlocks := B.notSynchronized
  have hin : meth.name = "<init>" := (name_of_methodNamed B.named B.method).1
  subst hsz
  have hD := hD0.self (sz := s.heap.size)
  generalize hAe : va_A [(h0, .inr (4, [.null, .null, .int 0, .int 0, .int 0]))] s.heap.size = A at hD ⊢
  have hA : ∀ q : Nat, s.heap.size ≤ q → A q := fun q h => by rw [← hAe]; exact Or.inr h
  have hS : va_S A s.heap s.heap [] := va_S.rf
  have hl := lv_entry ([.ref h0]) (n := 1) (Nat.le_of_ble_eq_true rfl)
  rw [lg_entry_eq]
  generalize (lg_sl ([.ref h0]) ++ List.replicate (1 - (lg_sl ([.ref h0])).length) Slot.unset).toArray = ls at hl ⊢
  replace hl : lv_has ls 1 [(0, .ref h0)] := hl
  refine lv_aload_n hx hb dX5_init_0 rfl (lv_at hl 0 rfl) ?_
  refine W.objInit hx hb hown (hts _ q_83) (hts _ q_10) (hts _ q_11) rfl (by rw [hml]; exact hl.1) rfl dX5_init_1 (Nat.le_of_ble_eq_true rfl) (Nat.le_of_ble_eq_true rfl) ?_
  refine W.eq (g2 := F0 m 4 ls []) rfl ?_
  refine lv_aload_n hx hb dX5_init_4 rfl (lv_at hl 0 rfl) ?_
  refine lv_bipush (v := 80) hx hb dX5_init_5 (by decide) ?_
  refine va_newa (atype := .int) (ty := .int) (N' := 80) (a0 := (80, .inl (fun _ => 0))) hx hb (hts _ q_40) rfl hK hP hD hS hA (fun _ => rfl) (by decide) (by decide) (Nat.le_of_ble_eq_true rfl) (Nat.le_of_ble_eq_true rfl) (Nat.le_of_ble_eq_true rfl) dX5_init_7 (fun q1 g1 H hK hP hD hS => ?_)
  replace hP : va_P D vwCl [(h0, .inr (4, [.null, .null, .int 0, .int 0, .int 0])), (q1, .inl (g1, 80, .inl (fun _ => 0)))] H := hP
  replace hD : va_D A [(h0, .inr (4, [.null, .null, .int 0, .int 0, .int 0])), (q1, .inl (g1, 80, .inl (fun _ => 0)))] := hD
  replace hK : va_K D vwCl [(g1, .int)] s := hK
  refine va_putF (D := D) (ci := 4) (v := .ref q1) (ty := .array .int) (C := RX5) (T := TX5) (N := 5) hx hb hts inlX5 tyX5 tyX5_ok nmX5 hown hK hP hD hS 0 rfl rfl 0 (by decide) (hts _ q_84) (fun _ h9 => h9) rfl hin rfl (by decide +kernel) rfl rfl (Nat.le_of_ble_eq_true rfl) dX5_init_9 (fun H locs hP hD hS => ?_)
  replace hP : va_P D vwCl [(h0, .inr (4, [.ref q1, .null, .int 0, .int 0, .int 0])), (q1, .inl (g1, 80, .inl (fun _ => 0)))] H := hP
  replace hD : va_D A [(h0, .inr (4, [.ref q1, .null, .int 0, .int 0, .int 0])), (q1, .inl (g1, 80, .inl (fun _ => 0)))] := hD
  refine lv_aload_n hx hb dX5_init_12 rfl (lv_at hl 0 rfl) ?_
  refine lv_bipush (v := 80) hx hb dX5_init_13 (by decide) ?_
  refine va_newa (atype := .long) (ty := .long) (N' := 80) (a0 := (80, .inr (.inl (fun _ => 0)))) hx hb (hts _ q_75) rfl hK hP hD hS hA (fun _ => rfl) (by decide) (by decide) (Nat.le_of_ble_eq_true rfl) (Nat.le_of_ble_eq_true rfl) (Nat.le_of_ble_eq_true rfl) dX5_init_15 (fun q2 g2 H hK hP hD hS => ?_)
  replace hP : va_P D vwCl [(h0, .inr (4, [.ref q1, .null, .int 0, .int 0, .int 0])), (q1, .inl (g1, 80, .inl (fun _ => 0))), (q2, .inl (g2, 80, .inr (.inl (fun _ => 0))))] H := hP
  replace hD : va_D A [(h0, .inr (4, [.ref q1, .null, .int 0, .int 0, .int 0])), (q1, .inl (g1, 80, .inl (fun _ => 0))), (q2, .inl (g2, 80, .inr (.inl (fun _ => 0))))] := hD
  replace hK : va_K D vwCl [(g1, .int), (g2, .long)] s := hK
  refine va_putF (D := D) (ci := 4) (v := .ref q2) (ty := .array .long) (C := RX5) (T := TX5) (N := 5) hx hb hts inlX5 tyX5 tyX5_ok nmX5 hown hK hP hD hS 0 rfl rfl 1 (by decide) (hts _ q_85) (fun _ h9 => h9) rfl hin rfl (by decide +kernel) rfl rfl (Nat.le_of_ble_eq_true rfl) dX5_init_17 (fun H locs hP hD hS => ?_)
  replace hP : va_P D vwCl [(h0, .inr (4, [.ref q1, .ref q2, .int 0, .int 0, .int 0])), (q1, .inl (g1, 80, .inl (fun _ => 0))), (q2, .inl (g2, 80, .inr (.inl (fun _ => 0))))] H := hP
  replace hD : va_D A [(h0, .inr (4, [.ref q1, .ref q2, .int 0, .int 0, .int 0])), (q1, .inl (g1, 80, .inl (fun _ => 0))), (q2, .inl (g2, 80, .inr (.inl (fun _ => 0))))] := hD
  exact W.vret hx hb hr (fun t ht hW => ⟨⟨(), rfl, trivial, (fun k => [q1, q2].getD k 0), (fun k => [g1, g2].getD k 0), by rw [ht]; exact hP, va_K.moved hW.alike hK, hD⟩, hS.F ht⟩) hS.2.2 dX5_init_20

def INI_X7 (h0 : Nat) (q : Nat → Nat) (g : Nat → ClassId) : va_W := [(h0, .inr (6, [.ref (q 0), .int 0, .ref (q 1), .ref (q 2), .int 0])), ((q 0), .inl ((g 0), 80, .inr (.inl (fun _ => 0)))), ((q 1), .inl ((g 1), 2000, .inl (fun _ => 0))), ((q 2), .inl ((g 2), 2000, .inl (fun _ => 0)))]
def TYS_X7 (g : Nat → ClassId) : List (ClassId × FieldType) := [((g 0), .long), ((g 1), .int), ((g 2), .int)]
abbrev rmi_X7 : Room := { frames := 1, cells := 3, slots := 4080, locals := 12 }
set_option maxHeartbeats 4000000 in
set_option maxRecDepth 100000 in
theorem ci_X7 {l : Launch} {D : va_G} {h0 : Nat} (sz : Nat) : Met l yX7_init (Cond.code yX7_init cX7_init 1 none :: wU) rmi_X7 (va_Pc [.ref h0] (PreI D [(h0, .inr (6, [.null, .int 0, .null, .null, .int 0]))] sz (fun _ => True))) (va_Qv (fun (_ : Unit) => True) (PostI D (va_A [(h0, .inr (6, [.null, .int 0, .null, .null, .int 0]))] sz) (INI_X7 h0) TYS_X7) (va_A [(h0, .inr (6, [.null, .int 0, .null, .null, .int 0]))] sz)) 3 4080 (va_A [(h0, .inr (6, [.null, .int 0, .null, .null, .int 0]))] sz) := by
  refine Met.ofW (cc := cX7_init) (maxL := 1) (ret := none) (by decide) rfl ?_
  intro p e s m args below meth c s₁ B hml hv
  obtain ⟨rfl, hsz, hP, hK, hD0, hE⟩ := hv
  have hx := B.exec
  have hb := B.bytes
  have hr := B.returns
  have hts0 := atoms_spec (ws := Cond.code yX7_init cX7_init 1 none :: wU) B.pre
  have hts : ∀ w ∈ wU, w.before [Value.ref h0].toArray s = true := fun w h => hts0 w (List.mem_cons_of_mem _ h)
  have hown : s.vm.findClass RX7 = some m.cls := findClass_of_methodNamed B.named
  have hlocks := B.notSynchronized
  have hin : meth.name = "<init>" := (name_of_methodNamed B.named B.method).1
  subst hsz
  have hD := hD0.self (sz := s.heap.size)
  generalize hAe : va_A [(h0, .inr (6, [.null, .int 0, .null, .null, .int 0]))] s.heap.size = A at hD ⊢
  have hA : ∀ q : Nat, s.heap.size ≤ q → A q := fun q h => by rw [← hAe]; exact Or.inr h
  have hS : va_S A s.heap s.heap [] := va_S.rf
  have hl := lv_entry ([.ref h0]) (n := 1) (Nat.le_of_ble_eq_true rfl)
  rw [lg_entry_eq]
  generalize (lg_sl ([.ref h0]) ++ List.replicate (1 - (lg_sl ([.ref h0])).length) Slot.unset).toArray = ls at hl ⊢
  replace hl : lv_has ls 1 [(0, .ref h0)] := hl
  refine lv_aload_n hx hb dX7_init_0 rfl (lv_at hl 0 rfl) ?_
  refine W.objInit hx hb hown (hts _ q_88) (hts _ q_10) (hts _ q_11) rfl (by rw [hml]; exact hl.1) rfl dX7_init_1 (Nat.le_of_ble_eq_true rfl) (Nat.le_of_ble_eq_true rfl) ?_
  refine W.eq (g2 := F0 m 4 ls []) rfl ?_
  refine lv_aload_n hx hb dX7_init_4 rfl (lv_at hl 0 rfl) ?_
  refine lv_bipush (v := 80) hx hb dX7_init_5 (by decide) ?_
  refine va_newa (atype := .long) (ty := .long) (N' := 80) (a0 := (80, .inr (.inl (fun _ => 0)))) hx hb (hts _ q_75) rfl hK hP hD hS hA (fun _ => rfl) (by decide) (by decide) (Nat.le_of_ble_eq_true rfl) (Nat.le_of_ble_eq_true rfl) (Nat.le_of_ble_eq_true rfl) dX7_init_7 (fun q1 g1 H hK hP hD hS => ?_)
  replace hP : va_P D vwCl [(h0, .inr (6, [.null, .int 0, .null, .null, .int 0])), (q1, .inl (g1, 80, .inr (.inl (fun _ => 0))))] H := hP
  replace hD : va_D A [(h0, .inr (6, [.null, .int 0, .null, .null, .int 0])), (q1, .inl (g1, 80, .inr (.inl (fun _ => 0))))] := hD
  replace hK : va_K D vwCl [(g1, .long)] s := hK
  refine va_putF (D := D) (ci := 6) (v := .ref q1) (ty := .array .long) (C := RX7) (T := TX7) (N := 5) hx hb hts inlX7 tyX7 tyX7_ok nmX7 hown hK hP hD hS 0 rfl rfl 0 (by decide) (hts _ q_89) (fun _ h9 => h9) rfl hin rfl (by decide +kernel) rfl rfl (Nat.le_of_ble_eq_true rfl) dX7_init_9 (fun H locs hP hD hS => ?_)
  replace hP : va_P D vwCl [(h0, .inr (6, [.ref q1, .int 0, .null, .null, .int 0])), (q1, .inl (g1, 80, .inr (.inl (fun _ => 0))))] H := hP
  replace hD : va_D A [(h0, .inr (6, [.ref q1, .int 0, .null, .null, .int 0])), (q1, .inl (g1, 80, .inr (.inl (fun _ => 0))))] := hD
  refine lv_aload_n hx hb dX7_init_12 rfl (lv_at hl 0 rfl) ?_
  refine lv_sipush (v := 2000) hx hb dX7_init_13 (by decide) ?_
  refine va_newa (atype := .int) (ty := .int) (N' := 2000) (a0 := (2000, .inl (fun _ => 0))) hx hb (hts _ q_40) rfl hK hP hD hS hA (fun _ => rfl) (by decide) (by decide) (Nat.le_of_ble_eq_true rfl) (Nat.le_of_ble_eq_true rfl) (Nat.le_of_ble_eq_true rfl) dX7_init_16 (fun q2 g2 H hK hP hD hS => ?_)
  replace hP : va_P D vwCl [(h0, .inr (6, [.ref q1, .int 0, .null, .null, .int 0])), (q1, .inl (g1, 80, .inr (.inl (fun _ => 0)))), (q2, .inl (g2, 2000, .inl (fun _ => 0)))] H := hP
  replace hD : va_D A [(h0, .inr (6, [.ref q1, .int 0, .null, .null, .int 0])), (q1, .inl (g1, 80, .inr (.inl (fun _ => 0)))), (q2, .inl (g2, 2000, .inl (fun _ => 0)))] := hD
  replace hK : va_K D vwCl [(g1, .long), (g2, .int)] s := hK
  refine va_putF (D := D) (ci := 6) (v := .ref q2) (ty := .array .int) (C := RX7) (T := TX7) (N := 5) hx hb hts inlX7 tyX7 tyX7_ok nmX7 hown hK hP hD hS 0 rfl rfl 2 (by decide) (hts _ q_90) (fun _ h9 => h9) rfl hin rfl (by decide +kernel) rfl rfl (Nat.le_of_ble_eq_true rfl) dX7_init_18 (fun H locs hP hD hS => ?_)
  replace hP : va_P D vwCl [(h0, .inr (6, [.ref q1, .int 0, .ref q2, .null, .int 0])), (q1, .inl (g1, 80, .inr (.inl (fun _ => 0)))), (q2, .inl (g2, 2000, .inl (fun _ => 0)))] H := hP
  replace hD : va_D A [(h0, .inr (6, [.ref q1, .int 0, .ref q2, .null, .int 0])), (q1, .inl (g1, 80, .inr (.inl (fun _ => 0)))), (q2, .inl (g2, 2000, .inl (fun _ => 0)))] := hD
  refine lv_aload_n hx hb dX7_init_21 rfl (lv_at hl 0 rfl) ?_
  refine lv_sipush (v := 2000) hx hb dX7_init_22 (by decide) ?_
  refine va_newa (atype := .int) (ty := .int) (N' := 2000) (a0 := (2000, .inl (fun _ => 0))) hx hb (hts _ q_40) rfl hK hP hD hS hA (fun _ => rfl) (by decide) (by decide) (Nat.le_of_ble_eq_true rfl) (Nat.le_of_ble_eq_true rfl) (Nat.le_of_ble_eq_true rfl) dX7_init_25 (fun q3 g3 H hK hP hD hS => ?_)
  replace hP : va_P D vwCl [(h0, .inr (6, [.ref q1, .int 0, .ref q2, .null, .int 0])), (q1, .inl (g1, 80, .inr (.inl (fun _ => 0)))), (q2, .inl (g2, 2000, .inl (fun _ => 0))), (q3, .inl (g3, 2000, .inl (fun _ => 0)))] H := hP
  replace hD : va_D A [(h0, .inr (6, [.ref q1, .int 0, .ref q2, .null, .int 0])), (q1, .inl (g1, 80, .inr (.inl (fun _ => 0)))), (q2, .inl (g2, 2000, .inl (fun _ => 0))), (q3, .inl (g3, 2000, .inl (fun _ => 0)))] := hD
  replace hK : va_K D vwCl [(g1, .long), (g2, .int), (g3, .int)] s := hK
  refine va_putF (D := D) (ci := 6) (v := .ref q3) (ty := .array .int) (C := RX7) (T := TX7) (N := 5) hx hb hts inlX7 tyX7 tyX7_ok nmX7 hown hK hP hD hS 0 rfl rfl 3 (by decide) (hts _ q_91) (fun _ h9 => h9) rfl hin rfl (by decide +kernel) rfl rfl (Nat.le_of_ble_eq_true rfl) dX7_init_27 (fun H locs hP hD hS => ?_)
  replace hP : va_P D vwCl [(h0, .inr (6, [.ref q1, .int 0, .ref q2, .ref q3, .int 0])), (q1, .inl (g1, 80, .inr (.inl (fun _ => 0)))), (q2, .inl (g2, 2000, .inl (fun _ => 0))), (q3, .inl (g3, 2000, .inl (fun _ => 0)))] H := hP
  replace hD : va_D A [(h0, .inr (6, [.ref q1, .int 0, .ref q2, .ref q3, .int 0])), (q1, .inl (g1, 80, .inr (.inl (fun _ => 0)))), (q2, .inl (g2, 2000, .inl (fun _ => 0))), (q3, .inl (g3, 2000, .inl (fun _ => 0)))] := hD
  exact W.vret hx hb hr (fun t ht hW => ⟨⟨(), rfl, trivial, (fun k => [q1, q2, q3].getD k 0), (fun k => [g1, g2, g3].getD k 0), by rw [ht]; exact hP, va_K.moved hW.alike hK, hD⟩, hS.F ht⟩) hS.2.2 dX7_init_30

def INI_X3 (h0 : Nat) (q : Nat → Nat) (g : Nat → ClassId) : va_W := [(h0, .inr (2, [.int 0, .int 0, .int 0, .int 0]))]
def TYS_X3 (g : Nat → ClassId) : List (ClassId × FieldType) := []
abbrev rmi_X3 : Room := { frames := 1, cells := 0, slots := 0, locals := 12 }
set_option maxHeartbeats 4000000 in
set_option maxRecDepth 100000 in
theorem ci_X3 {l : Launch} {D : va_G} {h0 : Nat} (sz : Nat) : Met l yX3_init (Cond.code yX3_init cX3_init 1 none :: wU) rmi_X3 (va_Pc [.ref h0] (PreI D [(h0, .inr (2, [.int 0, .int 0, .int 0, .int 0]))] sz (fun _ => True))) (va_Qv (fun (_ : Unit) => True) (PostI D (va_A [(h0, .inr (2, [.int 0, .int 0, .int 0, .int 0]))] sz) (INI_X3 h0) TYS_X3) (va_A [(h0, .inr (2, [.int 0, .int 0, .int 0, .int 0]))] sz)) 0 0 (va_A [(h0, .inr (2, [.int 0, .int 0, .int 0, .int 0]))] sz) := by
  refine Met.ofW (cc := cX3_init) (maxL := 1) (ret := none) (by decide) rfl ?_
  intro p e s m args below meth c s₁ B hml hv
  obtain ⟨rfl, hsz, hP, hK, hD0, hE⟩ := hv
  have hx := B.exec
  have hb := B.bytes
  have hr := B.returns
  have hts0 := atoms_spec (ws := Cond.code yX3_init cX3_init 1 none :: wU) B.pre
  have hts : ∀ w ∈ wU, w.before [Value.ref h0].toArray s = true := fun w h => hts0 w (List.mem_cons_of_mem _ h)
  have hown : s.vm.findClass RX3 = some m.cls := findClass_of_methodNamed B.named
  have hlocks := B.notSynchronized
  have hin : meth.name = "<init>" := (name_of_methodNamed B.named B.method).1
  subst hsz
  have hD := hD0.self (sz := s.heap.size)
  generalize hAe : va_A [(h0, .inr (2, [.int 0, .int 0, .int 0, .int 0]))] s.heap.size = A at hD ⊢
  have hA : ∀ q : Nat, s.heap.size ≤ q → A q := fun q h => by rw [← hAe]; exact Or.inr h
  have hS : va_S A s.heap s.heap [] := va_S.rf
  have hl := lv_entry ([.ref h0]) (n := 1) (Nat.le_of_ble_eq_true rfl)
  rw [lg_entry_eq]
  generalize (lg_sl ([.ref h0]) ++ List.replicate (1 - (lg_sl ([.ref h0])).length) Slot.unset).toArray = ls at hl ⊢
  replace hl : lv_has ls 1 [(0, .ref h0)] := hl
  refine lv_aload_n hx hb dX3_init_0 rfl (lv_at hl 0 rfl) ?_
  refine W.objInit hx hb hown (hts _ q_94) (hts _ q_10) (hts _ q_11) rfl (by rw [hml]; exact hl.1) rfl dX3_init_1 (Nat.le_of_ble_eq_true rfl) (Nat.le_of_ble_eq_true rfl) ?_
  refine W.eq (g2 := F0 m 4 ls []) rfl ?_
  exact W.vret hx hb hr (fun t ht hW => ⟨⟨(), rfl, trivial, (fun k => [].getD k 0), (fun k => [].getD k 0), by rw [ht]; exact hP, va_K.moved hW.alike hK, hD⟩, hS.F ht⟩) hS.2.2 dX3_init_4

/-- the class as it is made -/
def SX0 : St := ((fun k => if k = 1 then (-9) else if k = 7 then 1 else if k = 11 then (-9) else 0), (fun _ => 0), (fun k => fun _ => 0), (fun _ _ => 0))
abbrev rmi_X8 : Room := { frames := 2, cells := 33, slots := 7314, locals := 32 }
