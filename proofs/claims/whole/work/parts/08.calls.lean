/-! CALLS of a method of the same side: the callee's world is the caller's -/
def CalV (C : String) (y : MethodName) (bytes : ByteArray) (maxL : Nat) (ret : Option FieldType) (rm : Room) (n : Nat) : Prop :=
  Cond.instanceMethod y ∈ wU ∧ Cond.selects C y y ∈ wU ∧ Cond.initialized C ∈ wU ∧ Cond.code y bytes maxL ret ∈ wU ∧ (y.cls = C ∧ y.cls ≠ "java/lang/invoke/MethodHandle" ∧ y.cls ≠ "java/lang/invoke/VarHandle" ∧ (parseMethodDescriptor y.desc).map (fun d => d.parameters.length) = some n) ∧ rm.cells = 0 ∧ rm.slots = 0
def CalS (y : MethodName) (bytes : ByteArray) (maxL : Nat) (ret : Option FieldType) (rm : Room) (n : Nat) : Prop :=
  Cond.static y ∈ wU ∧ Cond.initialized y.cls ∈ wU ∧ Cond.code y bytes maxL ret ∈ wU ∧ (y.cls ≠ "java/lang/invoke/MethodHandle" ∧ y.cls ≠ "java/lang/invoke/VarHandle" ∧ (parseMethodDescriptor y.desc).map (fun d => d.parameters.length) = some n) ∧ rm.cells = 0 ∧ rm.slots = 0
theorem good_callee {y : MethodName} {bytes : ByteArray} {maxL : Nat} {ret : Option FieldType} (h : Cond.code y bytes maxL ret ∈ wU) : GoodIn wU (Cond.code y bytes maxL ret :: wU) := fun w hw => (List.mem_cons.mp hw).elim (fun e => by rw [e]; exact wU_good _ h) (fun h2 => wU_good w h2)
theorem goodV {own C : String} {index : Nat} {y : MethodName} {ws : List Cond} (hg : GoodIn wU ws) (w1 : Cond.methodLink own index y ∈ wU) (w2 : Cond.instanceMethod y ∈ wU) (w3 : Cond.selects C y y ∈ wU) (w4 : Cond.initialized C ∈ wU) : GoodIn wU (wsV own index C y ws) := by
  intro w hw
  unfold wsV at hw
  rcases List.mem_append.mp hw with h | h
  · rcases List.mem_cons.mp h with rfl | h
    · exact wU_good _ w1
    rcases List.mem_cons.mp h with rfl | h
    · exact wU_good _ w2
    rcases List.mem_cons.mp h with rfl | h
    · exact wU_good _ w3
    rcases List.mem_cons.mp h with rfl | h
    · exact wU_good _ w4
    cases h
  · exact hg w h
theorem goodS {own : String} {index : Nat} {y : MethodName} {ws : List Cond} (hg : GoodIn wU ws) (w1 : Cond.methodLink own index y ∈ wU) (w2 : Cond.static y ∈ wU) (w4 : Cond.initialized y.cls ∈ wU) : GoodIn wU (va_wsS own index y ws) := by
  intro w hw
  unfold va_wsS at hw
  rcases List.mem_append.mp hw with h | h
  · rcases List.mem_cons.mp h with rfl | h
    · exact wU_good _ w1
    rcases List.mem_cons.mp h with rfl | h
    · exact wU_good _ w2
    rcases List.mem_cons.mp h with rfl | h
    · exact wU_good _ w4
    cases h
  · exact hg w h
/-- what a callee asks of what isn't its world's: kept at a call -/
def Blind (E : (Nat → Prop) → State → Prop) : Prop := ∀ (A : Nat → Prop) (a : Array Value) (U : State) (g : JFrame) (mk : MethodId), E A U → E A (U.calling g mk a)
theorem blind0 : Blind E0 := fun _ _ _ _ _ _ => trivial
theorem PreW.blind {D : va_G} {tys : List (ClassId × FieldType)} {Wd : St → va_W} {S : St} {sz : Nat} {E : (Nat → Prop) → State → Prop} (hE : Blind E) {av : List Value} : FrameBlind (va_Pc av (PreW D tys Wd S sz E)) := by
  intro a U g mk h
  obtain ⟨h0, h1, h2, h3, h4, h5⟩ := h
  exact ⟨h0, h1, h2, va_K.moved (u := U) (U := U.calling g mk a) (Vm.Alike.refl U.vm) h3, h4, hE _ _ _ _ _ h5⟩
section CALLS
variable {p : Program} {l : Launch} {e : Env} {R : Room} {s : State} {m : MethodId} {args : Array Value} {below : List Frame} {meth : Method} {c : Code} {Q : State → Prop} {D : va_G} {tys : List (ClassId × FieldType)} {A : Nat → Prop} {Wd : St → va_W} {cc : ByteArray} {nL nf no : Nat} {own : String} {H : Heap} {locs : List Loc} {ls : Array Slot} {pc : Nat} {st0 rest : List Value} {S : St} {index : Nat} {C : String} {y : MethodName} {bytes : ByteArray} {maxL n : Nat} {ret : Option FieldType} {rm : Room} {b : Nat} {As : List Value} {lv : List (Nat × Value)} {q0 ci : Nat} {fs : List Value} {qc : vw_C} {E : (Nat → Prop) → State → Prop}
theorem Cx.free (hc : Cx p R s m args c D tys A Wd cc nL own nf no) (hS : va_S A s.heap H locs) (S : St) : ∀ q, va_A (Wd S) H.size q → A q := by
  intro q h
  rcases h with ⟨k, e, h⟩ | h
  · exact (hc.2.2.1 S).2 k _ h
  · exact hc.2.2.2.1 q (Nat.le_trans hS.1 h)
set_option maxHeartbeats 4000000 in
theorem cl_ViE (hc : Cx p R s m args c D tys A Wd cc nL own nf no) (hk : CalV C y bytes maxL ret rm n) (hlink : Cond.methodLink own index y ∈ wU) {S1 : St} {r1 : Int32} (hEb : Blind E) (hE : ∀ U : State, U.heap = H → s.WarmedH U.vm → E (va_A (Wd S) H.size) U) (hM : MetI l D tys Wd E y bytes maxL ret rm (.ref b :: As) S (S1, r1)) (hP : va_P D vwCl (Wd S) H) (hS : va_S A s.heap H locs) (he : (Wd S)[q0]? = some (b, .inr (ci, fs))) (hcl : vwCl[ci]? = some qc) (hC : qc.1 = C) (hn : As.length = n) (hl : lv_has ls nL lv) (hrest : (rest.map fun v => v.category).sum ≤ 8) (hdg : decode cc pc = .ok (.invokevirtual index, 3)) (hfr : rm.frames + 1 ≤ nf) (hlo : 8 + (maxL + 11) + rm.locals ≤ no) (hst : st0 = As.reverse ++ .ref b :: rest)
    (kk : ∀ (H : Heap) (locs : List Loc), va_P D vwCl (Wd S1) H → va_S A s.heap H locs → W p l e R s m args below meth c H locs 0 0 Q (F0 m (pc + 3) ls (.int r1 :: rest))) : W p l e R s m args below meth c H locs 0 0 Q (F0 m pc ls st0) := by
  have hFc := hc.free hS S
  obtain ⟨⟨hx, hb, hml, hown, hts⟩, hK, hD, hA, hnf, hno⟩ := hc
  obtain ⟨k1, k2, k3, k4, k5, k6, k7⟩ := hk
  subst hC
  refine va_calli (va_runV (As := As) (rest := rest) ⟨hx, hb, hml, hown, hts⟩ (hM H.size) (cwV n hts (goodV (good_callee k4) hlink k1 k2 k3) rfl k6 k7 k5 ⟨Nat.le_trans hfr hnf, Nat.le_trans hlo hno⟩) ⟨PreW.blind hEb, va_recv hK hP hcl he, fun U hU hW => ⟨rfl, by rw [hU], by rw [hU]; exact hP, va_K.moved hW.alike hK, (hD S).weaken (fun _ _ _ _ => trivial), hE U hU hW⟩⟩ rfl hn hl.1 hst (lv_room hrest) hdg ⟨Nat.zero_le _, Nat.zero_le _⟩) hS (fun q _ h => hFc q h) hFc (fun r u t H1 locs1 ht hvm hw hB hz1 hk1 hS1 => ?_)
  subst hw
  exact kk H1 locs1 (by rw [← ht]; exact hB) hS1
set_option maxHeartbeats 4000000 in
theorem cl_VlE (hc : Cx p R s m args c D tys A Wd cc nL own nf no) (hk : CalV C y bytes maxL ret rm n) (hlink : Cond.methodLink own index y ∈ wU) {S1 : St} {r1 : Int64} (hEb : Blind E) (hE : ∀ U : State, U.heap = H → s.WarmedH U.vm → E (va_A (Wd S) H.size) U) (hM : MetL l D tys Wd E y bytes maxL ret rm (.ref b :: As) S (S1, r1)) (hP : va_P D vwCl (Wd S) H) (hS : va_S A s.heap H locs) (he : (Wd S)[q0]? = some (b, .inr (ci, fs))) (hcl : vwCl[ci]? = some qc) (hC : qc.1 = C) (hn : As.length = n) (hl : lv_has ls nL lv) (hrest : (rest.map fun v => v.category).sum ≤ 8) (hdg : decode cc pc = .ok (.invokevirtual index, 3)) (hfr : rm.frames + 1 ≤ nf) (hlo : 8 + (maxL + 11) + rm.locals ≤ no) (hst : st0 = As.reverse ++ .ref b :: rest)
    (kk : ∀ (H : Heap) (locs : List Loc), va_P D vwCl (Wd S1) H → va_S A s.heap H locs → W p l e R s m args below meth c H locs 0 0 Q (F0 m (pc + 3) ls (.long r1 :: rest))) : W p l e R s m args below meth c H locs 0 0 Q (F0 m pc ls st0) := by
  have hFc := hc.free hS S
  obtain ⟨⟨hx, hb, hml, hown, hts⟩, hK, hD, hA, hnf, hno⟩ := hc
  obtain ⟨k1, k2, k3, k4, k5, k6, k7⟩ := hk
  subst hC
  refine va_calll (va_runV (As := As) (rest := rest) ⟨hx, hb, hml, hown, hts⟩ (hM H.size) (cwV n hts (goodV (good_callee k4) hlink k1 k2 k3) rfl k6 k7 k5 ⟨Nat.le_trans hfr hnf, Nat.le_trans hlo hno⟩) ⟨PreW.blind hEb, va_recv hK hP hcl he, fun U hU hW => ⟨rfl, by rw [hU], by rw [hU]; exact hP, va_K.moved hW.alike hK, (hD S).weaken (fun _ _ _ _ => trivial), hE U hU hW⟩⟩ rfl hn hl.1 hst (lv_room hrest) hdg ⟨Nat.zero_le _, Nat.zero_le _⟩) hS (fun q _ h => hFc q h) hFc (fun r u t H1 locs1 ht hvm hw hB hz1 hk1 hS1 => ?_)
  subst hw
  exact kk H1 locs1 (by rw [← ht]; exact hB) hS1
set_option maxHeartbeats 4000000 in
theorem cl_VvE (hc : Cx p R s m args c D tys A Wd cc nL own nf no) (hk : CalV C y bytes maxL ret rm n) (hlink : Cond.methodLink own index y ∈ wU) {S1 : St} (hEb : Blind E) (hE : ∀ U : State, U.heap = H → s.WarmedH U.vm → E (va_A (Wd S) H.size) U) (hM : MetV l D tys Wd E y bytes maxL ret rm (.ref b :: As) S S1) (hP : va_P D vwCl (Wd S) H) (hS : va_S A s.heap H locs) (he : (Wd S)[q0]? = some (b, .inr (ci, fs))) (hcl : vwCl[ci]? = some qc) (hC : qc.1 = C) (hn : As.length = n) (hl : lv_has ls nL lv) (hrest : (rest.map fun v => v.category).sum ≤ 8) (hdg : decode cc pc = .ok (.invokevirtual index, 3)) (hfr : rm.frames + 1 ≤ nf) (hlo : 8 + (maxL + 11) + rm.locals ≤ no) (hst : st0 = As.reverse ++ .ref b :: rest)
    (kk : ∀ (H : Heap) (locs : List Loc), va_P D vwCl (Wd S1) H → va_S A s.heap H locs → W p l e R s m args below meth c H locs 0 0 Q (F0 m (pc + 3) ls rest)) : W p l e R s m args below meth c H locs 0 0 Q (F0 m pc ls st0) := by
  have hFc := hc.free hS S
  obtain ⟨⟨hx, hb, hml, hown, hts⟩, hK, hD, hA, hnf, hno⟩ := hc
  obtain ⟨k1, k2, k3, k4, k5, k6, k7⟩ := hk
  subst hC
  refine va_callv (va_runV (As := As) (rest := rest) ⟨hx, hb, hml, hown, hts⟩ (hM H.size) (cwV n hts (goodV (good_callee k4) hlink k1 k2 k3) rfl k6 k7 k5 ⟨Nat.le_trans hfr hnf, Nat.le_trans hlo hno⟩) ⟨PreW.blind hEb, va_recv hK hP hcl he, fun U hU hW => ⟨rfl, by rw [hU], by rw [hU]; exact hP, va_K.moved hW.alike hK, (hD S).weaken (fun _ _ _ _ => trivial), hE U hU hW⟩⟩ rfl hn hl.1 hst (lv_room hrest) hdg ⟨Nat.zero_le _, Nat.zero_le _⟩) hS (fun q _ h => hFc q h) hFc (fun u t H1 locs1 ht hvm hw hB hz1 hk1 hS1 => ?_)
  exact kk H1 locs1 (by rw [← ht]; exact hB) hS1
set_option maxHeartbeats 4000000 in
theorem cl_Si (hc : Cx p R s m args c D tys A Wd cc nL own nf no) (hk : CalS y bytes maxL ret rm n) (hlink : Cond.methodLink own index y ∈ wU) {S1 : St} {r1 : Int32} (hM : MetI l D tys Wd E0 y bytes maxL ret rm As S (S1, r1)) (hP : va_P D vwCl (Wd S) H) (hS : va_S A s.heap H locs) (hn : As.length = n) (hl : lv_has ls nL lv) (hrest : (rest.map fun v => v.category).sum ≤ 8) (hdg : decode cc pc = .ok (.invokestatic index, 3)) (hfr : rm.frames + 1 ≤ nf) (hlo : 8 + (maxL + 11) + rm.locals ≤ no) (hst : st0 = As.reverse ++ rest)
    (kk : ∀ (H : Heap) (locs : List Loc), va_P D vwCl (Wd S1) H → va_S A s.heap H locs → W p l e R s m args below meth c H locs 0 0 Q (F0 m (pc + 3) ls (.int r1 :: rest))) : W p l e R s m args below meth c H locs 0 0 Q (F0 m pc ls st0) := by
  have hFc := hc.free hS S
  obtain ⟨⟨hx, hb, hml, hown, hts⟩, hK, hD, hA, hnf, hno⟩ := hc
  obtain ⟨k1, k3, k4, k5, k6, k7⟩ := hk
  refine va_calli (va_runS (As := As) (rest := rest) ⟨hx, hb, hml, hown, hts⟩ (hM H.size) (va_cwS n hts (goodS (good_callee k4) hlink k1 k3) rfl k6 k7 k5 ⟨Nat.le_trans hfr hnf, Nat.le_trans hlo hno⟩) ⟨PreW.blind blind0, fun U hU hW => ⟨rfl, by rw [hU], by rw [hU]; exact hP, va_K.moved hW.alike hK, (hD S).weaken (fun _ _ _ _ => trivial), trivial⟩⟩ rfl hn hl.1 hst (lv_room hrest) hdg ⟨Nat.zero_le _, Nat.zero_le _⟩) hS (fun q _ h => hFc q h) hFc (fun r u t H1 locs1 ht hvm hw hB hz1 hk1 hS1 => ?_)
  subst hw
  exact kk H1 locs1 (by rw [← ht]; exact hB) hS1
set_option maxHeartbeats 4000000 in
theorem cl_Sl (hc : Cx p R s m args c D tys A Wd cc nL own nf no) (hk : CalS y bytes maxL ret rm n) (hlink : Cond.methodLink own index y ∈ wU) {S1 : St} {r1 : Int64} (hM : MetL l D tys Wd E0 y bytes maxL ret rm As S (S1, r1)) (hP : va_P D vwCl (Wd S) H) (hS : va_S A s.heap H locs) (hn : As.length = n) (hl : lv_has ls nL lv) (hrest : (rest.map fun v => v.category).sum ≤ 8) (hdg : decode cc pc = .ok (.invokestatic index, 3)) (hfr : rm.frames + 1 ≤ nf) (hlo : 8 + (maxL + 11) + rm.locals ≤ no) (hst : st0 = As.reverse ++ rest)
    (kk : ∀ (H : Heap) (locs : List Loc), va_P D vwCl (Wd S1) H → va_S A s.heap H locs → W p l e R s m args below meth c H locs 0 0 Q (F0 m (pc + 3) ls (.long r1 :: rest))) : W p l e R s m args below meth c H locs 0 0 Q (F0 m pc ls st0) := by
  have hFc := hc.free hS S
  obtain ⟨⟨hx, hb, hml, hown, hts⟩, hK, hD, hA, hnf, hno⟩ := hc
  obtain ⟨k1, k3, k4, k5, k6, k7⟩ := hk
  refine va_calll (va_runS (As := As) (rest := rest) ⟨hx, hb, hml, hown, hts⟩ (hM H.size) (va_cwS n hts (goodS (good_callee k4) hlink k1 k3) rfl k6 k7 k5 ⟨Nat.le_trans hfr hnf, Nat.le_trans hlo hno⟩) ⟨PreW.blind blind0, fun U hU hW => ⟨rfl, by rw [hU], by rw [hU]; exact hP, va_K.moved hW.alike hK, (hD S).weaken (fun _ _ _ _ => trivial), trivial⟩⟩ rfl hn hl.1 hst (lv_room hrest) hdg ⟨Nat.zero_le _, Nat.zero_le _⟩) hS (fun q _ h => hFc q h) hFc (fun r u t H1 locs1 ht hvm hw hB hz1 hk1 hS1 => ?_)
  subst hw
  exact kk H1 locs1 (by rw [← ht]; exact hB) hS1
set_option maxHeartbeats 4000000 in
theorem cl_Sv (hc : Cx p R s m args c D tys A Wd cc nL own nf no) (hk : CalS y bytes maxL ret rm n) (hlink : Cond.methodLink own index y ∈ wU) {S1 : St} (hM : MetV l D tys Wd E0 y bytes maxL ret rm As S S1) (hP : va_P D vwCl (Wd S) H) (hS : va_S A s.heap H locs) (hn : As.length = n) (hl : lv_has ls nL lv) (hrest : (rest.map fun v => v.category).sum ≤ 8) (hdg : decode cc pc = .ok (.invokestatic index, 3)) (hfr : rm.frames + 1 ≤ nf) (hlo : 8 + (maxL + 11) + rm.locals ≤ no) (hst : st0 = As.reverse ++ rest)
    (kk : ∀ (H : Heap) (locs : List Loc), va_P D vwCl (Wd S1) H → va_S A s.heap H locs → W p l e R s m args below meth c H locs 0 0 Q (F0 m (pc + 3) ls rest)) : W p l e R s m args below meth c H locs 0 0 Q (F0 m pc ls st0) := by
  have hFc := hc.free hS S
  obtain ⟨⟨hx, hb, hml, hown, hts⟩, hK, hD, hA, hnf, hno⟩ := hc
  obtain ⟨k1, k3, k4, k5, k6, k7⟩ := hk
  refine va_callv (va_runS (As := As) (rest := rest) ⟨hx, hb, hml, hown, hts⟩ (hM H.size) (va_cwS n hts (goodS (good_callee k4) hlink k1 k3) rfl k6 k7 k5 ⟨Nat.le_trans hfr hnf, Nat.le_trans hlo hno⟩) ⟨PreW.blind blind0, fun U hU hW => ⟨rfl, by rw [hU], by rw [hU]; exact hP, va_K.moved hW.alike hK, (hD S).weaken (fun _ _ _ _ => trivial), trivial⟩⟩ rfl hn hl.1 hst (lv_room hrest) hdg ⟨Nat.zero_le _, Nat.zero_le _⟩) hS (fun q _ h => hFc q h) hFc (fun u t H1 locs1 ht hvm hw hB hz1 hk1 hS1 => ?_)
  exact kk H1 locs1 (by rw [← ht]; exact hB) hS1
theorem cl_Vi (hc : Cx p R s m args c D tys A Wd cc nL own nf no) (hk : CalV C y bytes maxL ret rm n) (hlink : Cond.methodLink own index y ∈ wU) {S1 : St} {r1 : Int32} (hM : MetI l D tys Wd E0 y bytes maxL ret rm (.ref b :: As) S (S1, r1)) (hP : va_P D vwCl (Wd S) H) (hS : va_S A s.heap H locs) (he : (Wd S)[q0]? = some (b, .inr (ci, fs))) (hcl : vwCl[ci]? = some qc) (hC : qc.1 = C) (hn : As.length = n) (hl : lv_has ls nL lv) (hrest : (rest.map fun v => v.category).sum ≤ 8) (hdg : decode cc pc = .ok (.invokevirtual index, 3)) (hfr : rm.frames + 1 ≤ nf) (hlo : 8 + (maxL + 11) + rm.locals ≤ no) (hst : st0 = As.reverse ++ .ref b :: rest)
    (kk : ∀ (H : Heap) (locs : List Loc), va_P D vwCl (Wd S1) H → va_S A s.heap H locs → W p l e R s m args below meth c H locs 0 0 Q (F0 m (pc + 3) ls (.int r1 :: rest))) : W p l e R s m args below meth c H locs 0 0 Q (F0 m pc ls st0) :=
  cl_ViE hc hk hlink blind0 (fun _ _ _ => trivial) hM hP hS he hcl hC hn hl hrest hdg hfr hlo hst kk
theorem cl_Vl (hc : Cx p R s m args c D tys A Wd cc nL own nf no) (hk : CalV C y bytes maxL ret rm n) (hlink : Cond.methodLink own index y ∈ wU) {S1 : St} {r1 : Int64} (hM : MetL l D tys Wd E0 y bytes maxL ret rm (.ref b :: As) S (S1, r1)) (hP : va_P D vwCl (Wd S) H) (hS : va_S A s.heap H locs) (he : (Wd S)[q0]? = some (b, .inr (ci, fs))) (hcl : vwCl[ci]? = some qc) (hC : qc.1 = C) (hn : As.length = n) (hl : lv_has ls nL lv) (hrest : (rest.map fun v => v.category).sum ≤ 8) (hdg : decode cc pc = .ok (.invokevirtual index, 3)) (hfr : rm.frames + 1 ≤ nf) (hlo : 8 + (maxL + 11) + rm.locals ≤ no) (hst : st0 = As.reverse ++ .ref b :: rest)
    (kk : ∀ (H : Heap) (locs : List Loc), va_P D vwCl (Wd S1) H → va_S A s.heap H locs → W p l e R s m args below meth c H locs 0 0 Q (F0 m (pc + 3) ls (.long r1 :: rest))) : W p l e R s m args below meth c H locs 0 0 Q (F0 m pc ls st0) :=
  cl_VlE hc hk hlink blind0 (fun _ _ _ => trivial) hM hP hS he hcl hC hn hl hrest hdg hfr hlo hst kk
theorem cl_Vv (hc : Cx p R s m args c D tys A Wd cc nL own nf no) (hk : CalV C y bytes maxL ret rm n) (hlink : Cond.methodLink own index y ∈ wU) {S1 : St} (hM : MetV l D tys Wd E0 y bytes maxL ret rm (.ref b :: As) S S1) (hP : va_P D vwCl (Wd S) H) (hS : va_S A s.heap H locs) (he : (Wd S)[q0]? = some (b, .inr (ci, fs))) (hcl : vwCl[ci]? = some qc) (hC : qc.1 = C) (hn : As.length = n) (hl : lv_has ls nL lv) (hrest : (rest.map fun v => v.category).sum ≤ 8) (hdg : decode cc pc = .ok (.invokevirtual index, 3)) (hfr : rm.frames + 1 ≤ nf) (hlo : 8 + (maxL + 11) + rm.locals ≤ no) (hst : st0 = As.reverse ++ .ref b :: rest)
    (kk : ∀ (H : Heap) (locs : List Loc), va_P D vwCl (Wd S1) H → va_S A s.heap H locs → W p l e R s m args below meth c H locs 0 0 Q (F0 m (pc + 3) ls rest)) : W p l e R s m args below meth c H locs 0 0 Q (F0 m pc ls st0) :=
  cl_VvE hc hk hlink blind0 (fun _ _ _ => trivial) hM hP hS he hcl hC hn hl hrest hdg hfr hlo hst kk
end CALLS
