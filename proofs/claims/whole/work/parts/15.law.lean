/-! THE CLAIM OUT OF ONE WALK OF THE LAW'S BODY. Your part is whole_start (and what it stands on); all else here is the same for every law, but numbers. -/
def R_law : String := "HiddenEdgesLaw"
def lw_P (b : Addr) (xs : List Int32) (args : Array Value) (s : State) : Prop := args = #[.ref b] ∧ s.IntsAt b xs ∧ xs.length ≤ 3584 ∧ (Jvm.Cond.and given_1 narrow_1).before args s = true
def lw_Q (_ : Array Value) (s : State) (o : Outcome) (t : State) : Prop := o = .returned (some (.int 1)) ∧ Framed s o t [] 56 39944
def lw_Z (below : List Frame) (a : Array Value) (s : State) : State → Prop := fun t => ∃ o, t.status = .running ∧ Ended t below o ∧ lw_Q a s o t
/-- the law's own end, with 1 on the stack, nothing written that was there before, its room as the claim has it -/
theorem lw_ret {p : Program} {l : Launch} {e : Env} {s : State} {m : MethodId} {below : List Frame} {meth : Method} {c : Code} {b : Nat} (hx : p.tables.exec = Jvm.exec) (hb : c.code = code) (hr : meth.sig.returnType = ret) (hlocks : meth.locks = false) {pc : Nat} {H : Heap} {ls : Array Slot} (hdg : decode code pc = .ok (.ireturn, 1)) : W p l e room_1 s m #[Value.ref b] below meth c H [] 56 39944 (lw_Z below #[Value.ref b] s) (F0 m pc ls [.int 1]) := by
  intro T hT X
  obtain ⟨fs, hret, hrun, hended, hW, hframe⟩ := X.leave (v := some (.int 1)) (hlocks := hlocks) (fun h => by rw [hr] at h; cases h)
  have hmeth' : T.vm.method? m = some meth := X.method'
  refine ⟨T.setFrames fs, ?_, .returned (some (.int 1)), hrun, hended, rfl, ⟨_, rfl⟩, hW, hframe⟩
  jvm_step X.here [X.here.top, hx, hb, hdg, hmeth', hr, ret, narrow_b1]
  (try refine ⟨rfl, ?_⟩); (try refine ⟨rfl, ?_⟩)
  first | (intro acts; rw [hret _ acts rfl rfl rfl]) | rw [hret _ _ rfl rfl rfl]
  exact Steps.refl _
/-- what holds at the law's entry: the machine, the code, the tables' words (any of lw_tbl by 'hts w (by decide +kernel)'), the script of L ints xs at the cell b, what the Statement gives of the start (any of its parts by flat_of_before) -/
def lw_At (p : Program) (s : State) (m : MethodId) (meth : Method) (c : Code) (b L : Nat) (xs : Nat → Int32) : Prop :=
  p.tables.exec = Jvm.exec ∧ c.code = code ∧ meth.sig.returnType = ret ∧ c.maxLocals = 4 ∧ s.vm.findClass R_law = some m.cls ∧ (∀ w ∈ lw_tbl, w.before #[Value.ref b] s = true) ∧ va_X b L xs s s.heap ∧ b < s.heap.size ∧ meth.locks = false ∧ (Jvm.Cond.and given_1 narrow_1).before #[Value.ref b] s = true

/-! worlds side by side -/
theorem P_left {D : va_G} {cl : List vw_C} {X Y : va_W} {H : Heap} (h : va_P D cl (X ++ Y) H) : va_P D cl X H := fun k q hk => h k q (by rw [List.getElem?_append_left (List.getElem?_eq_some_iff.mp hk).1]; exact hk)
theorem P_right {D : va_G} {cl : List vw_C} {X Y : va_W} {H : Heap} (h : va_P D cl (X ++ Y) H) : va_P D cl Y H := fun k q hk => h (X.length + k) q (by rw [List.getElem?_append_right (Nat.le_add_right _ _), Nat.add_sub_cancel_left]; exact hk)
theorem D_left {A : Nat → Prop} {X Y : va_W} (h : va_D A (X ++ Y)) : va_D A X := ⟨fun i j p q h1 h2 h3 => h.1 i j p q (by rw [List.getElem?_append_left (List.getElem?_eq_some_iff.mp h1).1]; exact h1) (by rw [List.getElem?_append_left (List.getElem?_eq_some_iff.mp h2).1]; exact h2) h3, fun k q hk => h.2 k q (by rw [List.getElem?_append_left (List.getElem?_eq_some_iff.mp hk).1]; exact hk)⟩
theorem D_right {A : Nat → Prop} {X Y : va_W} (h : va_D A (X ++ Y)) : va_D A Y := by
  have at' : ∀ (k : Nat) (q : Nat × va_E), Y[k]? = some q → (X ++ Y)[X.length + k]? = some q := fun k q hk => by
    rw [List.getElem?_append_right (Nat.le_add_right _ _), Nat.add_sub_cancel_left]; exact hk
  exact ⟨fun i j p q h1 h2 h3 => by have := h.1 _ _ p q (at' i p h1) (at' j q h2) h3; omega, fun k q hk => h.2 _ q (at' k q hk)⟩
theorem apart_LR {A : Nat → Prop} {X Y : va_W} (h : va_D A (X ++ Y)) {i j : Nat} {p q : Nat × va_E} (h1 : X[i]? = some p) (h2 : Y[j]? = some q) : p.1 ≠ q.1 := by
  intro e
  have hi := (List.getElem?_eq_some_iff.mp h1).1
  have := h.1 i (X.length + j) p q (by rw [List.getElem?_append_left hi]; exact h1) (by rw [List.getElem?_append_right (Nat.le_add_right _ _), Nat.add_sub_cancel_left]; exact h2) e
  omega
theorem join_left {A : Nat → Prop} {D : va_G} {cl : List vw_C} {X X1 Y : va_W} {H H1 : Heap} (hP : va_P D cl (X ++ Y) H) (hD : va_D A (X ++ Y)) (hk : ∀ q : Nat, q < H.size → ¬ va_A X H.size q → H1[q]? = H[q]?) (hP1 : va_P D cl X1 H1) : va_P D cl (X1 ++ Y) H1 := by
  refine va_P.app hP1 (fun k q hq => ?_)
  have hy := P_right hP k q hq
  have hl := hy.lt
  refine hy.kept (hk q.1 hl (fun h => ?_))
  rcases h with ⟨k2, e, h⟩ | h
  · exact apart_LR hD h hq rfl
  · omega
theorem join_right {A : Nat → Prop} {D : va_G} {cl : List vw_C} {X Y Y1 : va_W} {H H1 : Heap} (hP : va_P D cl (X ++ Y) H) (hD : va_D A (X ++ Y)) (hk : ∀ q : Nat, q < H.size → ¬ va_A Y H.size q → H1[q]? = H[q]?) (hP1 : va_P D cl Y1 H1) : va_P D cl (X ++ Y1) H1 := by
  refine va_P.app (fun k q hq => ?_) hP1
  have hy := P_left hP k q hq
  have hl := hy.lt
  refine hy.kept (hk q.1 hl (fun h => ?_))
  rcases h with ⟨k2, e, h⟩ | h
  · exact apart_LR hD hq h rfl
  · omega
theorem D_of_map {w w' : va_W} (h : w.map Prod.fst = w'.map Prod.fst) {A : Nat → Prop} (hD : va_D A w) : va_D A w' := same_D (Wd := fun S : St => if gi S 0 = 0 then w else w') (fun S S' => by dsimp only; split <;> split <;> first | rfl | exact h | exact h.symm) (S := ((fun _ => 0), (fun _ => 0), (fun _ _ => 0), (fun _ _ => 0))) hD ((fun _ => 1), (fun _ => 0), (fun _ _ => 0), (fun _ _ => 0))
theorem EB_free {s : State} {A : Nat → Prop} {w : va_W} {H : Heap} {locs : List Loc} (hf : ∀ q, va_A w H.size q → A q) (hS : va_S A s.heap H locs) (hE : EB A s) : ∀ U : State, U.heap = H → s.WarmedH U.vm → EB (va_A w H.size) U := by
  intro U hU hW
  obtain ⟨tb, h1, h2⟩ := hE
  refine ⟨tb, ?_, ?_⟩
  · rw [hU]
    exact (va_Z.moved hW.alike (h1.kept (H1 := H) hS.2.1)).narrow hf
  · rw [hU]
    exact (va_T.moved hW.alike (h2.kept (H1 := H) hS.2.1)).narrow hf
section LAWC
variable {p : Program} {l : Launch} {e : Env} {R : Room} {s : State} {m : MethodId} {args : Array Value} {below : List Frame} {meth : Method} {c : Code} {Q : State → Prop} {D : va_G} {tys : List (ClassId × FieldType)} {A : Nat → Prop} {Wd : St → va_W} {cc : ByteArray} {nL : Nat} {own : String} {H : Heap} {locs : List Loc} {cells slots : Nat} {ls : Array Slot} {pc : Nat} {st0 rest : List Value} {S : St} {index : Nat} {C : String} {y : MethodName} {bytes : ByteArray} {maxL n : Nat} {ret : Option FieldType} {rm : Room} {b : Nat} {As : List Value} {lv : List (Nat × Value)} {q0 ci : Nat} {fs : List Value} {qc : vw_C} {E : (Nat → Prop) → State → Prop} {Y : va_W}
theorem free_of {X : va_W} (hD : va_D A X) (hS : va_S A s.heap H locs) (hA : ∀ q : Nat, s.heap.size ≤ q → A q) : ∀ q, va_A X H.size q → A q := by
  intro q h
  rcases h with ⟨k, e, h⟩ | h
  · exact hD.2 k _ h
  · exact hA q (Nat.le_trans hS.1 h)
set_option maxHeartbeats 4000000 in
/-- the law's call of one side: the other stays -/
theorem lw_call (hF : CallFix p m c cc nL s args wU own) (hK : va_K D vwCl tys s) (hPX : va_P D vwCl (Wd S) H) (hDX : va_D A (Wd S)) (hS : va_S A s.heap H locs) (hA : ∀ q : Nat, s.heap.size ≤ q → A q) (hk : CalV C y bytes maxL ret rm n) (hlink : Cond.methodLink own index y ∈ wU) {S1 : St} {r1 : Int32} (hEb : Blind E) (hE : ∀ U : State, U.heap = H → s.WarmedH U.vm → E (va_A (Wd S) H.size) U) (hM : MetI l D tys Wd E y bytes maxL ret rm (.ref b :: As) S (S1, r1)) (he : (Wd S)[q0]? = some (b, .inr (ci, fs))) (hcl : vwCl[ci]? = some qc) (hC : qc.1 = C) (hn : As.length = n) (hl : lv_has ls nL lv) (hrest : (rest.map fun v => v.category).sum ≤ 8) (hdg : decode cc pc = .ok (.invokevirtual index, 3)) (hR : rm.frames + 1 ≤ R.frames ∧ 8 + (maxL + 11) + rm.locals ≤ R.locals) (hf : cells + 0 ≤ R.cells ∧ slots + 0 ≤ R.slots) (hst : st0 = As.reverse ++ .ref b :: rest)
    (kk : ∀ (H1 : Heap) (locs1 : List Loc), (∀ q : Nat, q < H.size → ¬ va_A (Wd S) H.size q → H1[q]? = H[q]?) → va_P D vwCl (Wd S1) H1 → va_S A s.heap H1 locs1 → W p l e R s m args below meth c H1 locs1 cells slots Q (F0 m (pc + 3) ls (.int r1 :: rest))) : W p l e R s m args below meth c H locs cells slots Q (F0 m pc ls st0) := by
  have hFc := free_of hDX hS hA
  obtain ⟨hx, hb, hml, hown, hts⟩ := hF
  obtain ⟨k1, k2, k3, k4, k5, k6, k7⟩ := hk
  subst hC
  refine va_calli (va_runV (As := As) (rest := rest) ⟨hx, hb, hml, hown, hts⟩ (hM H.size) (cwV n hts (goodV (good_callee k4) hlink k1 k2 k3) rfl k6 k7 k5 hR) ⟨PreW.blind hEb, va_recv hK hPX hcl he, fun U hU hW => ⟨rfl, by rw [hU], by rw [hU]; exact hPX, va_K.moved hW.alike hK, hDX.weaken (fun _ _ _ _ => trivial), hE U hU hW⟩⟩ rfl hn hl.1 hst (lv_room hrest) hdg hf) hS (fun q _ h => hFc q h) hFc (fun r u t H1 locs1 ht hvm hw hB hz1 hk1 hS1 => ?_)
  subst hw
  exact kk H1 locs1 hk1 (by rw [← ht]; exact hB) hS1
end LAWC
/-! what the two sides answer alike -/
def Step0 (Rel : SZ → SZ → Prop) (fx fm : SZ → Option (SZ × Int)) : Prop := ∀ Zx Zm : SZ, Rel Zx Zm → ∃ (Zx1 Zm1 : SZ) (r : Int), fx Zx = some (Zx1, r) ∧ fm Zm = some (Zm1, r) ∧ Rel Zx1 Zm1
def Step1 (Rel : SZ → SZ → Prop) (fx fm : SZ → Int → Option (SZ × Int)) : Prop := ∀ Zx Zm : SZ, Rel Zx Zm → ∀ u1 : Int, rng u1 → ∃ (Zx1 Zm1 : SZ) (r : Int), fx Zx u1 = some (Zx1, r) ∧ fm Zm u1 = some (Zm1, r) ∧ Rel Zx1 Zm1
def Step2 (Rel : SZ → SZ → Prop) (fx fm : SZ → Int → Int → Option (SZ × Int)) : Prop := ∀ Zx Zm : SZ, Rel Zx Zm → ∀ u1 u2 : Int, rng u1 → rng u2 → ∃ (Zx1 Zm1 : SZ) (r : Int), fx Zx u1 u2 = some (Zx1, r) ∧ fm Zm u1 u2 = some (Zm1, r) ∧ Rel Zx1 Zm1
def Step3 (Rel : SZ → SZ → Prop) (fx fm : SZ → Int → Int → Int → Option (SZ × Int)) : Prop := ∀ Zx Zm : SZ, Rel Zx Zm → ∀ u1 u2 u3 : Int, rng u1 → rng u2 → rng u3 → ∃ (Zx1 Zm1 : SZ) (r : Int), fx Zx u1 u2 u3 = some (Zx1, r) ∧ fm Zm u1 u2 u3 = some (Zm1, r) ∧ Rel Zx1 Zm1
def Step6 (Rel : SZ → SZ → Prop) (fx fm : SZ → Int → Int → Int → Int → Int → Int → Option (SZ × Int)) : Prop := ∀ Zx Zm : SZ, Rel Zx Zm → ∀ u1 u2 u3 u4 u5 u6 : Int, rng u1 → rng u2 → rng u3 → rng u4 → rng u5 → rng u6 → ∃ (Zx1 Zm1 : SZ) (r : Int), fx Zx u1 u2 u3 u4 u5 u6 = some (Zx1, r) ∧ fm Zm u1 u2 u3 u4 u5 u6 = some (Zm1, r) ∧ Rel Zx1 Zm1

def Steps (Rel : SZ → SZ → Prop) : Prop := Step3 Rel f_X8_point f_X9_point ∧ Step3 Rel f_X8_face f_X9_face ∧ Step2 Rel f_X8_wire f_X9_wire ∧ Step6 Rel f_X8_block f_X9_block ∧ Step0 Rel f_X8_cut f_X9_cut ∧ Step0 Rel f_X8_clear f_X9_clear ∧ Step3 Rel f_X8_view f_X9_view ∧ Step1 Rel f_X8_turn f_X9_turn ∧ Step3 Rel f_X8_move f_X9_move ∧ Step2 Rel f_X8_ofPoint f_X9_ofPoint ∧ Step2 Rel f_X8_ofFace f_X9_ofFace ∧ Step2 Rel f_X8_ofEdge f_X9_ofEdge ∧ Step2 Rel f_X8_edge f_X9_edge ∧ Step3 Rel f_X8_stretch f_X9_stretch ∧ Step3 Rel f_X8_hidden f_X9_hidden ∧ Step3 Rel f_X8_piece f_X9_piece ∧ Step3 Rel f_X8_crossing f_X9_crossing ∧ Step2 Rel f_X8_stroke f_X9_stroke ∧ Step3 Rel f_X8_strokePiece f_X9_strokePiece ∧ Step1 Rel f_X8_many f_X9_many
def LC (p : Program) (s : State) (m : MethodId) (meth : Method) (c : Code) (D : va_G) (a b : Nat → Nat) (g h : Nat → ClassId) (bb L : Nat) (xs : Nat → Int32) : Prop :=
  CallFix p m c code 4 s #[Value.ref bb] wU RL ∧ va_K D vwCl (tysWX g) s ∧ va_K D vwCl (tysWM h) s ∧ (∀ Sx Sm : St, va_D (fun q : Nat => s.heap.size ≤ q) (WX a g Sx ++ WM b h Sm)) ∧ va_X bb L xs s s.heap ∧ bb < s.heap.size ∧ EB (fun q : Nat => s.heap.size ≤ q) s ∧ meth.sig.returnType = ret ∧ meth.locks = false
def LGo (p : Program) (l : Launch) (e : Env) (s : State) (m : MethodId) (below : List Frame) (meth : Method) (c : Code) (D : va_G) (a b : Nat → Nat) (g h : Nat → ClassId) (bb : Nat) (Sx Sm : SZ) (pc : Nat) (lv : List (Nat × Value)) (st : List Value) : Prop :=
  ∀ (H : Heap) (locs : List Loc) (ls : Array Slot), va_P D vwCl (WX a g (em Sx) ++ WM b h (em Sm)) H → va_S (fun q : Nat => s.heap.size ≤ q) s.heap H locs → lv_has ls 4 lv → W p l e room_1 s m #[Value.ref bb] below meth c H locs 56 39944 (lw_Z below #[Value.ref bb] s) (F0 m pc ls st)
section LAWK
variable {p : Program} {l : Launch} {e : Env} {s : State} {m : MethodId} {below : List Frame} {meth : Method} {c : Code} {D : va_G} {a b : Nat → Nat} {g h : Nat → ClassId} {bb L : Nat} {xs : Nat → Int32} {Rel : SZ → SZ → Prop}
set_option maxHeartbeats 4000000 in
set_option maxRecDepth 100000 in
theorem law_point (hc : LC p s m meth c D a b g h bb L xs) (hst : Step3 Rel f_X8_point f_X9_point) {x3 : Int32} (hin : ∀ k : Nat, k < 7 → vp_in (x3 + Int32.ofNat k) L) {Sx Sm : SZ} (hrel : Rel Sx Sm) (K : ∀ Sx Sm : SZ, Rel Sx Sm → LGo p l e s m below meth c D a b g h bb Sx Sm 860 [(3, .int x3), (2, .ref (b 0)), (1, .ref (a 0)), (0, .ref bb)] []) : LGo p l e s m below meth c D a b g h bb Sx Sm 128 [(3, .int x3), (2, .ref (b 0)), (1, .ref (a 0)), (0, .ref bb)] [] := by
  obtain ⟨⟨hx, hb, hml, hown, hts⟩, hKx, hKm, hDD, hX, hbl, hEB, hrt, hlocks⟩ := id hc
  have hA : ∀ q : Nat, s.heap.size ≤ q → (fun q : Nat => s.heap.size ≤ q) q := fun _ h => h
  have hbA : ¬ (fun q : Nat => s.heap.size ≤ q) bb := Nat.not_le.mpr hbl
  obtain ⟨u1, hu1, hr1⟩ : ∃ u : Int, xs (x3 + (1 : Int32)).toNatClampNeg = Int32.ofInt u ∧ rng u := ⟨_, (Int32.ofInt_toInt _).symm, Int32.le_toInt _, Int32.toInt_lt _⟩
  obtain ⟨u2, hu2, hr2⟩ : ∃ u : Int, xs (x3 + (2 : Int32)).toNatClampNeg = Int32.ofInt u ∧ rng u := ⟨_, (Int32.ofInt_toInt _).symm, Int32.le_toInt _, Int32.toInt_lt _⟩
  obtain ⟨u3, hu3, hr3⟩ : ∃ u : Int, xs (x3 + (3 : Int32)).toNatClampNeg = Int32.ofInt u ∧ rng u := ⟨_, (Int32.ofInt_toInt _).symm, Int32.le_toInt _, Int32.toInt_lt _⟩
  obtain ⟨Sx1, Sm1, r, e1, e2, hrel1⟩ := hst Sx Sm hrel u1 u2 u3 hr1 hr2 hr3
  intro H locs ls hP hS hl
  refine lv_aload_n hx hb dL_law_128 rfl (lv_at hl 2 rfl) ?_
  refine lv_aload_n hx hb dL_law_129 rfl (lv_at hl 3 rfl) ?_
  refine lv_iload_n hx hb dL_law_130 rfl (lv_at hl 0 rfl) ?_
  refine lv_iconst (v := 1) hx hb dL_law_131 (by decide) ?_
  refine lv_iadd hx hb dL_law_132 ?_
  refine va_sld hx hb hX hbl hbA hS (hin 1 (by decide)) dL_law_133 ?_
  rw [hu1]
  refine lv_aload_n hx hb dL_law_134 rfl (lv_at hl 3 rfl) ?_
  refine lv_iload_n hx hb dL_law_135 rfl (lv_at hl 0 rfl) ?_
  refine lv_iconst (v := 2) hx hb dL_law_136 (by decide) ?_
  refine lv_iadd hx hb dL_law_137 ?_
  refine va_sld hx hb hX hbl hbA hS (hin 2 (by decide)) dL_law_138 ?_
  rw [hu2]
  refine lv_aload_n hx hb dL_law_139 rfl (lv_at hl 3 rfl) ?_
  refine lv_iload_n hx hb dL_law_140 rfl (lv_at hl 0 rfl) ?_
  refine lv_iconst (v := 3) hx hb dL_law_141 (by decide) ?_
  refine lv_iadd hx hb dL_law_142 ?_
  refine va_sld hx hb hX hbl hbA hS (hin 3 (by decide)) dL_law_143 ?_
  rw [hu3]
  refine lw_call (As := [.int (Int32.ofInt u1), .int (Int32.ofInt u2), .int (Int32.ofInt u3)]) (rest := []) ⟨hx, hb, hml, hown, hts⟩ hKx (P_left hP) (D_left (hDD (em Sx) (em Sm))) hS hA k_X8_point q_122 blind0 (fun _ _ _ => trivial) (c_X8_point e1) (WX_0 a g (em Sx)) rfl rfl rfl hl (Nat.le_of_ble_eq_true rfl) dL_law_144 ⟨(Nat.le_of_ble_eq_true rfl), (Nat.le_of_ble_eq_true rfl)⟩ ⟨(Nat.le_of_ble_eq_true rfl), (Nat.le_of_ble_eq_true rfl)⟩ rfl (fun H1 locs1 hk1 hP1 hS => ?_)
  replace hP := join_left hP (hDD (em Sx) (em Sm)) hk1 hP1
  clear hP1 hk1
  refine lv_aload_n hx hb dL_law_147 rfl (lv_at hl 1 rfl) ?_
  refine lv_aload_n hx hb dL_law_148 rfl (lv_at hl 3 rfl) ?_
  refine lv_iload_n hx hb dL_law_149 rfl (lv_at hl 0 rfl) ?_
  refine lv_iconst (v := 1) hx hb dL_law_150 (by decide) ?_
  refine lv_iadd hx hb dL_law_151 ?_
  refine va_sld hx hb hX hbl hbA hS (hin 1 (by decide)) dL_law_152 ?_
  rw [hu1]
  refine lv_aload_n hx hb dL_law_153 rfl (lv_at hl 3 rfl) ?_
  refine lv_iload_n hx hb dL_law_154 rfl (lv_at hl 0 rfl) ?_
  refine lv_iconst (v := 2) hx hb dL_law_155 (by decide) ?_
  refine lv_iadd hx hb dL_law_156 ?_
  refine va_sld hx hb hX hbl hbA hS (hin 2 (by decide)) dL_law_157 ?_
  rw [hu2]
  refine lv_aload_n hx hb dL_law_158 rfl (lv_at hl 3 rfl) ?_
  refine lv_iload_n hx hb dL_law_159 rfl (lv_at hl 0 rfl) ?_
  refine lv_iconst (v := 3) hx hb dL_law_160 (by decide) ?_
  refine lv_iadd hx hb dL_law_161 ?_
  refine va_sld hx hb hX hbl hbA hS (hin 3 (by decide)) dL_law_162 ?_
  rw [hu3]
  refine lw_call (As := [.int (Int32.ofInt u1), .int (Int32.ofInt u2), .int (Int32.ofInt u3)]) (rest := [.int (Int32.ofInt r)]) ⟨hx, hb, hml, hown, hts⟩ hKm (P_right hP) (D_right (hDD (em Sx1) (em Sm))) hS hA k_X9_point q_150 blind0 (fun _ _ _ => trivial) (c_X9_point e2) (WM_0 b h (em Sm)) rfl rfl rfl hl (Nat.le_of_ble_eq_true rfl) dL_law_163 ⟨(Nat.le_of_ble_eq_true rfl), (Nat.le_of_ble_eq_true rfl)⟩ ⟨(Nat.le_of_ble_eq_true rfl), (Nat.le_of_ble_eq_true rfl)⟩ rfl (fun H1 locs1 hk1 hP1 hS => ?_)
  replace hP := join_right hP (hDD (em Sx1) (em Sm)) hk1 hP1
  refine lv_icmp_eq (tgt := 860) hx hb dL_law_166 (by decide) (fun hq => ?_) (fun hq => absurd rfl hq)
  exact K Sx1 Sm1 hrel1 _ _ _ hP hS hl
set_option maxHeartbeats 4000000 in
set_option maxRecDepth 100000 in
theorem law_face (hc : LC p s m meth c D a b g h bb L xs) (hst : Step3 Rel f_X8_face f_X9_face) {x3 : Int32} (hin : ∀ k : Nat, k < 7 → vp_in (x3 + Int32.ofNat k) L) {Sx Sm : SZ} (hrel : Rel Sx Sm) (K : ∀ Sx Sm : SZ, Rel Sx Sm → LGo p l e s m below meth c D a b g h bb Sx Sm 860 [(3, .int x3), (2, .ref (b 0)), (1, .ref (a 0)), (0, .ref bb)] []) : LGo p l e s m below meth c D a b g h bb Sx Sm 171 [(3, .int x3), (2, .ref (b 0)), (1, .ref (a 0)), (0, .ref bb)] [] := by
  obtain ⟨⟨hx, hb, hml, hown, hts⟩, hKx, hKm, hDD, hX, hbl, hEB, hrt, hlocks⟩ := id hc
  have hA : ∀ q : Nat, s.heap.size ≤ q → (fun q : Nat => s.heap.size ≤ q) q := fun _ h => h
  have hbA : ¬ (fun q : Nat => s.heap.size ≤ q) bb := Nat.not_le.mpr hbl
  obtain ⟨u1, hu1, hr1⟩ : ∃ u : Int, xs (x3 + (1 : Int32)).toNatClampNeg = Int32.ofInt u ∧ rng u := ⟨_, (Int32.ofInt_toInt _).symm, Int32.le_toInt _, Int32.toInt_lt _⟩
  obtain ⟨u2, hu2, hr2⟩ : ∃ u : Int, xs (x3 + (2 : Int32)).toNatClampNeg = Int32.ofInt u ∧ rng u := ⟨_, (Int32.ofInt_toInt _).symm, Int32.le_toInt _, Int32.toInt_lt _⟩
  obtain ⟨u3, hu3, hr3⟩ : ∃ u : Int, xs (x3 + (3 : Int32)).toNatClampNeg = Int32.ofInt u ∧ rng u := ⟨_, (Int32.ofInt_toInt _).symm, Int32.le_toInt _, Int32.toInt_lt _⟩
  obtain ⟨Sx1, Sm1, r, e1, e2, hrel1⟩ := hst Sx Sm hrel u1 u2 u3 hr1 hr2 hr3
  intro H locs ls hP hS hl
  refine lv_aload_n hx hb dL_law_171 rfl (lv_at hl 2 rfl) ?_
  refine lv_aload_n hx hb dL_law_172 rfl (lv_at hl 3 rfl) ?_
  refine lv_iload_n hx hb dL_law_173 rfl (lv_at hl 0 rfl) ?_
  refine lv_iconst (v := 1) hx hb dL_law_174 (by decide) ?_
  refine lv_iadd hx hb dL_law_175 ?_
  refine va_sld hx hb hX hbl hbA hS (hin 1 (by decide)) dL_law_176 ?_
  rw [hu1]
  refine lv_aload_n hx hb dL_law_177 rfl (lv_at hl 3 rfl) ?_
  refine lv_iload_n hx hb dL_law_178 rfl (lv_at hl 0 rfl) ?_
  refine lv_iconst (v := 2) hx hb dL_law_179 (by decide) ?_
  refine lv_iadd hx hb dL_law_180 ?_
  refine va_sld hx hb hX hbl hbA hS (hin 2 (by decide)) dL_law_181 ?_
  rw [hu2]
  refine lv_aload_n hx hb dL_law_182 rfl (lv_at hl 3 rfl) ?_
  refine lv_iload_n hx hb dL_law_183 rfl (lv_at hl 0 rfl) ?_
  refine lv_iconst (v := 3) hx hb dL_law_184 (by decide) ?_
  refine lv_iadd hx hb dL_law_185 ?_
  refine va_sld hx hb hX hbl hbA hS (hin 3 (by decide)) dL_law_186 ?_
  rw [hu3]
  refine lw_call (As := [.int (Int32.ofInt u1), .int (Int32.ofInt u2), .int (Int32.ofInt u3)]) (rest := []) ⟨hx, hb, hml, hown, hts⟩ hKx (P_left hP) (D_left (hDD (em Sx) (em Sm))) hS hA k_X8_face q_170 blind0 (fun _ _ _ => trivial) (c_X8_face e1) (WX_0 a g (em Sx)) rfl rfl rfl hl (Nat.le_of_ble_eq_true rfl) dL_law_187 ⟨(Nat.le_of_ble_eq_true rfl), (Nat.le_of_ble_eq_true rfl)⟩ ⟨(Nat.le_of_ble_eq_true rfl), (Nat.le_of_ble_eq_true rfl)⟩ rfl (fun H1 locs1 hk1 hP1 hS => ?_)
  replace hP := join_left hP (hDD (em Sx) (em Sm)) hk1 hP1
  clear hP1 hk1
  refine lv_aload_n hx hb dL_law_190 rfl (lv_at hl 1 rfl) ?_
  refine lv_aload_n hx hb dL_law_191 rfl (lv_at hl 3 rfl) ?_
  refine lv_iload_n hx hb dL_law_192 rfl (lv_at hl 0 rfl) ?_
  refine lv_iconst (v := 1) hx hb dL_law_193 (by decide) ?_
  refine lv_iadd hx hb dL_law_194 ?_
  refine va_sld hx hb hX hbl hbA hS (hin 1 (by decide)) dL_law_195 ?_
  rw [hu1]
  refine lv_aload_n hx hb dL_law_196 rfl (lv_at hl 3 rfl) ?_
  refine lv_iload_n hx hb dL_law_197 rfl (lv_at hl 0 rfl) ?_
  refine lv_iconst (v := 2) hx hb dL_law_198 (by decide) ?_
  refine lv_iadd hx hb dL_law_199 ?_
  refine va_sld hx hb hX hbl hbA hS (hin 2 (by decide)) dL_law_200 ?_
  rw [hu2]
  refine lv_aload_n hx hb dL_law_201 rfl (lv_at hl 3 rfl) ?_
  refine lv_iload_n hx hb dL_law_202 rfl (lv_at hl 0 rfl) ?_
  refine lv_iconst (v := 3) hx hb dL_law_203 (by decide) ?_
  refine lv_iadd hx hb dL_law_204 ?_
  refine va_sld hx hb hX hbl hbA hS (hin 3 (by decide)) dL_law_205 ?_
  rw [hu3]
  refine lw_call (As := [.int (Int32.ofInt u1), .int (Int32.ofInt u2), .int (Int32.ofInt u3)]) (rest := [.int (Int32.ofInt r)]) ⟨hx, hb, hml, hown, hts⟩ hKm (P_right hP) (D_right (hDD (em Sx1) (em Sm))) hS hA k_X9_face q_203 blind0 (fun _ _ _ => trivial) (c_X9_face e2) (WM_0 b h (em Sm)) rfl rfl rfl hl (Nat.le_of_ble_eq_true rfl) dL_law_206 ⟨(Nat.le_of_ble_eq_true rfl), (Nat.le_of_ble_eq_true rfl)⟩ ⟨(Nat.le_of_ble_eq_true rfl), (Nat.le_of_ble_eq_true rfl)⟩ rfl (fun H1 locs1 hk1 hP1 hS => ?_)
  replace hP := join_right hP (hDD (em Sx1) (em Sm)) hk1 hP1
  refine lv_icmp_eq (tgt := 860) hx hb dL_law_209 (by decide) (fun hq => ?_) (fun hq => absurd rfl hq)
  exact K Sx1 Sm1 hrel1 _ _ _ hP hS hl
set_option maxHeartbeats 4000000 in
set_option maxRecDepth 100000 in
theorem law_wire (hc : LC p s m meth c D a b g h bb L xs) (hst : Step2 Rel f_X8_wire f_X9_wire) {x3 : Int32} (hin : ∀ k : Nat, k < 7 → vp_in (x3 + Int32.ofNat k) L) {Sx Sm : SZ} (hrel : Rel Sx Sm) (K : ∀ Sx Sm : SZ, Rel Sx Sm → LGo p l e s m below meth c D a b g h bb Sx Sm 860 [(3, .int x3), (2, .ref (b 0)), (1, .ref (a 0)), (0, .ref bb)] []) : LGo p l e s m below meth c D a b g h bb Sx Sm 214 [(3, .int x3), (2, .ref (b 0)), (1, .ref (a 0)), (0, .ref bb)] [] := by
  obtain ⟨⟨hx, hb, hml, hown, hts⟩, hKx, hKm, hDD, hX, hbl, hEB, hrt, hlocks⟩ := id hc
  have hA : ∀ q : Nat, s.heap.size ≤ q → (fun q : Nat => s.heap.size ≤ q) q := fun _ h => h
  have hbA : ¬ (fun q : Nat => s.heap.size ≤ q) bb := Nat.not_le.mpr hbl
  obtain ⟨u1, hu1, hr1⟩ : ∃ u : Int, xs (x3 + (1 : Int32)).toNatClampNeg = Int32.ofInt u ∧ rng u := ⟨_, (Int32.ofInt_toInt _).symm, Int32.le_toInt _, Int32.toInt_lt _⟩
  obtain ⟨u2, hu2, hr2⟩ : ∃ u : Int, xs (x3 + (2 : Int32)).toNatClampNeg = Int32.ofInt u ∧ rng u := ⟨_, (Int32.ofInt_toInt _).symm, Int32.le_toInt _, Int32.toInt_lt _⟩
  obtain ⟨Sx1, Sm1, r, e1, e2, hrel1⟩ := hst Sx Sm hrel u1 u2 hr1 hr2
  intro H locs ls hP hS hl
  refine lv_aload_n hx hb dL_law_214 rfl (lv_at hl 2 rfl) ?_
  refine lv_aload_n hx hb dL_law_215 rfl (lv_at hl 3 rfl) ?_
  refine lv_iload_n hx hb dL_law_216 rfl (lv_at hl 0 rfl) ?_
  refine lv_iconst (v := 1) hx hb dL_law_217 (by decide) ?_
  refine lv_iadd hx hb dL_law_218 ?_
  refine va_sld hx hb hX hbl hbA hS (hin 1 (by decide)) dL_law_219 ?_
  rw [hu1]
  refine lv_aload_n hx hb dL_law_220 rfl (lv_at hl 3 rfl) ?_
  refine lv_iload_n hx hb dL_law_221 rfl (lv_at hl 0 rfl) ?_
  refine lv_iconst (v := 2) hx hb dL_law_222 (by decide) ?_
  refine lv_iadd hx hb dL_law_223 ?_
  refine va_sld hx hb hX hbl hbA hS (hin 2 (by decide)) dL_law_224 ?_
  rw [hu2]
  refine lw_call (As := [.int (Int32.ofInt u1), .int (Int32.ofInt u2)]) (rest := []) ⟨hx, hb, hml, hown, hts⟩ hKx (P_left hP) (D_left (hDD (em Sx) (em Sm))) hS hA k_X8_wire q_228 blind0 (fun _ _ _ => trivial) (c_X8_wire e1) (WX_0 a g (em Sx)) rfl rfl rfl hl (Nat.le_of_ble_eq_true rfl) dL_law_225 ⟨(Nat.le_of_ble_eq_true rfl), (Nat.le_of_ble_eq_true rfl)⟩ ⟨(Nat.le_of_ble_eq_true rfl), (Nat.le_of_ble_eq_true rfl)⟩ rfl (fun H1 locs1 hk1 hP1 hS => ?_)
  replace hP := join_left hP (hDD (em Sx) (em Sm)) hk1 hP1
  clear hP1 hk1
  refine lv_aload_n hx hb dL_law_228 rfl (lv_at hl 1 rfl) ?_
  refine lv_aload_n hx hb dL_law_229 rfl (lv_at hl 3 rfl) ?_
  refine lv_iload_n hx hb dL_law_230 rfl (lv_at hl 0 rfl) ?_
  refine lv_iconst (v := 1) hx hb dL_law_231 (by decide) ?_
  refine lv_iadd hx hb dL_law_232 ?_
  refine va_sld hx hb hX hbl hbA hS (hin 1 (by decide)) dL_law_233 ?_
  rw [hu1]
  refine lv_aload_n hx hb dL_law_234 rfl (lv_at hl 3 rfl) ?_
  refine lv_iload_n hx hb dL_law_235 rfl (lv_at hl 0 rfl) ?_
  refine lv_iconst (v := 2) hx hb dL_law_236 (by decide) ?_
  refine lv_iadd hx hb dL_law_237 ?_
  refine va_sld hx hb hX hbl hbA hS (hin 2 (by decide)) dL_law_238 ?_
  rw [hu2]
  refine lw_call (As := [.int (Int32.ofInt u1), .int (Int32.ofInt u2)]) (rest := [.int (Int32.ofInt r)]) ⟨hx, hb, hml, hown, hts⟩ hKm (P_right hP) (D_right (hDD (em Sx1) (em Sm))) hS hA k_X9_wire q_242 blind0 (fun _ _ _ => trivial) (c_X9_wire e2) (WM_0 b h (em Sm)) rfl rfl rfl hl (Nat.le_of_ble_eq_true rfl) dL_law_239 ⟨(Nat.le_of_ble_eq_true rfl), (Nat.le_of_ble_eq_true rfl)⟩ ⟨(Nat.le_of_ble_eq_true rfl), (Nat.le_of_ble_eq_true rfl)⟩ rfl (fun H1 locs1 hk1 hP1 hS => ?_)
  replace hP := join_right hP (hDD (em Sx1) (em Sm)) hk1 hP1
  refine lv_icmp_eq (tgt := 860) hx hb dL_law_242 (by decide) (fun hq => ?_) (fun hq => absurd rfl hq)
  exact K Sx1 Sm1 hrel1 _ _ _ hP hS hl
set_option maxHeartbeats 4000000 in
set_option maxRecDepth 100000 in
theorem law_block (hc : LC p s m meth c D a b g h bb L xs) (hst : Step6 Rel f_X8_block f_X9_block) {x3 : Int32} (hin : ∀ k : Nat, k < 7 → vp_in (x3 + Int32.ofNat k) L) {Sx Sm : SZ} (hrel : Rel Sx Sm) (K : ∀ Sx Sm : SZ, Rel Sx Sm → LGo p l e s m below meth c D a b g h bb Sx Sm 860 [(3, .int x3), (2, .ref (b 0)), (1, .ref (a 0)), (0, .ref bb)] []) : LGo p l e s m below meth c D a b g h bb Sx Sm 247 [(3, .int x3), (2, .ref (b 0)), (1, .ref (a 0)), (0, .ref bb)] [] := by
  obtain ⟨⟨hx, hb, hml, hown, hts⟩, hKx, hKm, hDD, hX, hbl, hEB, hrt, hlocks⟩ := id hc
  have hA : ∀ q : Nat, s.heap.size ≤ q → (fun q : Nat => s.heap.size ≤ q) q := fun _ h => h
  have hbA : ¬ (fun q : Nat => s.heap.size ≤ q) bb := Nat.not_le.mpr hbl
  obtain ⟨u1, hu1, hr1⟩ : ∃ u : Int, xs (x3 + (1 : Int32)).toNatClampNeg = Int32.ofInt u ∧ rng u := ⟨_, (Int32.ofInt_toInt _).symm, Int32.le_toInt _, Int32.toInt_lt _⟩
  obtain ⟨u2, hu2, hr2⟩ : ∃ u : Int, xs (x3 + (2 : Int32)).toNatClampNeg = Int32.ofInt u ∧ rng u := ⟨_, (Int32.ofInt_toInt _).symm, Int32.le_toInt _, Int32.toInt_lt _⟩
  obtain ⟨u3, hu3, hr3⟩ : ∃ u : Int, xs (x3 + (3 : Int32)).toNatClampNeg = Int32.ofInt u ∧ rng u := ⟨_, (Int32.ofInt_toInt _).symm, Int32.le_toInt _, Int32.toInt_lt _⟩
  obtain ⟨u4, hu4, hr4⟩ : ∃ u : Int, xs (x3 + (4 : Int32)).toNatClampNeg = Int32.ofInt u ∧ rng u := ⟨_, (Int32.ofInt_toInt _).symm, Int32.le_toInt _, Int32.toInt_lt _⟩
  obtain ⟨u5, hu5, hr5⟩ : ∃ u : Int, xs (x3 + (5 : Int32)).toNatClampNeg = Int32.ofInt u ∧ rng u := ⟨_, (Int32.ofInt_toInt _).symm, Int32.le_toInt _, Int32.toInt_lt _⟩
  obtain ⟨u6, hu6, hr6⟩ : ∃ u : Int, xs (x3 + (6 : Int32)).toNatClampNeg = Int32.ofInt u ∧ rng u := ⟨_, (Int32.ofInt_toInt _).symm, Int32.le_toInt _, Int32.toInt_lt _⟩
  obtain ⟨Sx1, Sm1, r, e1, e2, hrel1⟩ := hst Sx Sm hrel u1 u2 u3 u4 u5 u6 hr1 hr2 hr3 hr4 hr5 hr6
  intro H locs ls hP hS hl
  refine lv_aload_n hx hb dL_law_247 rfl (lv_at hl 2 rfl) ?_
  refine lv_aload_n hx hb dL_law_248 rfl (lv_at hl 3 rfl) ?_
  refine lv_iload_n hx hb dL_law_249 rfl (lv_at hl 0 rfl) ?_
  refine lv_iconst (v := 1) hx hb dL_law_250 (by decide) ?_
  refine lv_iadd hx hb dL_law_251 ?_
  refine va_sld hx hb hX hbl hbA hS (hin 1 (by decide)) dL_law_252 ?_
  rw [hu1]
  refine lv_aload_n hx hb dL_law_253 rfl (lv_at hl 3 rfl) ?_
  refine lv_iload_n hx hb dL_law_254 rfl (lv_at hl 0 rfl) ?_
  refine lv_iconst (v := 2) hx hb dL_law_255 (by decide) ?_
  refine lv_iadd hx hb dL_law_256 ?_
  refine va_sld hx hb hX hbl hbA hS (hin 2 (by decide)) dL_law_257 ?_
  rw [hu2]
  refine lv_aload_n hx hb dL_law_258 rfl (lv_at hl 3 rfl) ?_
  refine lv_iload_n hx hb dL_law_259 rfl (lv_at hl 0 rfl) ?_
  refine lv_iconst (v := 3) hx hb dL_law_260 (by decide) ?_
  refine lv_iadd hx hb dL_law_261 ?_
  refine va_sld hx hb hX hbl hbA hS (hin 3 (by decide)) dL_law_262 ?_
  rw [hu3]
  refine lv_aload_n hx hb dL_law_263 rfl (lv_at hl 3 rfl) ?_
  refine lv_iload_n hx hb dL_law_264 rfl (lv_at hl 0 rfl) ?_
  refine lv_iconst (v := 4) hx hb dL_law_265 (by decide) ?_
  refine lv_iadd hx hb dL_law_266 ?_
  refine va_sld hx hb hX hbl hbA hS (hin 4 (by decide)) dL_law_267 ?_
  rw [hu4]
  refine lv_aload_n hx hb dL_law_268 rfl (lv_at hl 3 rfl) ?_
  refine lv_iload_n hx hb dL_law_269 rfl (lv_at hl 0 rfl) ?_
  refine lv_iconst (v := 5) hx hb dL_law_270 (by decide) ?_
  refine lv_iadd hx hb dL_law_271 ?_
  refine va_sld hx hb hX hbl hbA hS (hin 5 (by decide)) dL_law_272 ?_
  rw [hu5]
  refine lv_aload_n hx hb dL_law_273 rfl (lv_at hl 3 rfl) ?_
  refine lv_iload_n hx hb dL_law_274 rfl (lv_at hl 0 rfl) ?_
  refine lv_bipush (v := 6) hx hb dL_law_275 (by decide) ?_
  refine lv_iadd hx hb dL_law_277 ?_
  refine va_sld hx hb hX hbl hbA hS (hin 6 (by decide)) dL_law_278 ?_
  rw [hu6]
  refine lw_call (As := [.int (Int32.ofInt u1), .int (Int32.ofInt u2), .int (Int32.ofInt u3), .int (Int32.ofInt u4), .int (Int32.ofInt u5), .int (Int32.ofInt u6)]) (rest := []) ⟨hx, hb, hml, hown, hts⟩ hKx (P_left hP) (D_left (hDD (em Sx) (em Sm))) hS hA k_X8_block q_251 blindB (EB_free (free_of (D_left (hDD (em Sx) (em Sm))) hS hA) hS hEB) (c_X8_block e1) (WX_0 a g (em Sx)) rfl rfl rfl hl (Nat.le_of_ble_eq_true rfl) dL_law_279 ⟨(Nat.le_of_ble_eq_true rfl), (Nat.le_of_ble_eq_true rfl)⟩ ⟨(Nat.le_of_ble_eq_true rfl), (Nat.le_of_ble_eq_true rfl)⟩ rfl (fun H1 locs1 hk1 hP1 hS => ?_)
  replace hP := join_left hP (hDD (em Sx) (em Sm)) hk1 hP1
  clear hP1 hk1
  refine lv_aload_n hx hb dL_law_282 rfl (lv_at hl 1 rfl) ?_
  refine lv_aload_n hx hb dL_law_283 rfl (lv_at hl 3 rfl) ?_
  refine lv_iload_n hx hb dL_law_284 rfl (lv_at hl 0 rfl) ?_
  refine lv_iconst (v := 1) hx hb dL_law_285 (by decide) ?_
  refine lv_iadd hx hb dL_law_286 ?_
  refine va_sld hx hb hX hbl hbA hS (hin 1 (by decide)) dL_law_287 ?_
  rw [hu1]
  refine lv_aload_n hx hb dL_law_288 rfl (lv_at hl 3 rfl) ?_
  refine lv_iload_n hx hb dL_law_289 rfl (lv_at hl 0 rfl) ?_
  refine lv_iconst (v := 2) hx hb dL_law_290 (by decide) ?_
  refine lv_iadd hx hb dL_law_291 ?_
  refine va_sld hx hb hX hbl hbA hS (hin 2 (by decide)) dL_law_292 ?_
  rw [hu2]
  refine lv_aload_n hx hb dL_law_293 rfl (lv_at hl 3 rfl) ?_
  refine lv_iload_n hx hb dL_law_294 rfl (lv_at hl 0 rfl) ?_
  refine lv_iconst (v := 3) hx hb dL_law_295 (by decide) ?_
  refine lv_iadd hx hb dL_law_296 ?_
  refine va_sld hx hb hX hbl hbA hS (hin 3 (by decide)) dL_law_297 ?_
  rw [hu3]
  refine lv_aload_n hx hb dL_law_298 rfl (lv_at hl 3 rfl) ?_
  refine lv_iload_n hx hb dL_law_299 rfl (lv_at hl 0 rfl) ?_
  refine lv_iconst (v := 4) hx hb dL_law_300 (by decide) ?_
  refine lv_iadd hx hb dL_law_301 ?_
  refine va_sld hx hb hX hbl hbA hS (hin 4 (by decide)) dL_law_302 ?_
  rw [hu4]
  refine lv_aload_n hx hb dL_law_303 rfl (lv_at hl 3 rfl) ?_
  refine lv_iload_n hx hb dL_law_304 rfl (lv_at hl 0 rfl) ?_
  refine lv_iconst (v := 5) hx hb dL_law_305 (by decide) ?_
  refine lv_iadd hx hb dL_law_306 ?_
  refine va_sld hx hb hX hbl hbA hS (hin 5 (by decide)) dL_law_307 ?_
  rw [hu5]
  refine lv_aload_n hx hb dL_law_308 rfl (lv_at hl 3 rfl) ?_
  refine lv_iload_n hx hb dL_law_309 rfl (lv_at hl 0 rfl) ?_
  refine lv_bipush (v := 6) hx hb dL_law_310 (by decide) ?_
  refine lv_iadd hx hb dL_law_312 ?_
  refine va_sld hx hb hX hbl hbA hS (hin 6 (by decide)) dL_law_313 ?_
  rw [hu6]
  refine lw_call (As := [.int (Int32.ofInt u1), .int (Int32.ofInt u2), .int (Int32.ofInt u3), .int (Int32.ofInt u4), .int (Int32.ofInt u5), .int (Int32.ofInt u6)]) (rest := [.int (Int32.ofInt r)]) ⟨hx, hb, hml, hown, hts⟩ hKm (P_right hP) (D_right (hDD (em Sx1) (em Sm))) hS hA k_X9_block q_266 blind0 (fun _ _ _ => trivial) (c_X9_block e2) (WM_0 b h (em Sm)) rfl rfl rfl hl (Nat.le_of_ble_eq_true rfl) dL_law_314 ⟨(Nat.le_of_ble_eq_true rfl), (Nat.le_of_ble_eq_true rfl)⟩ ⟨(Nat.le_of_ble_eq_true rfl), (Nat.le_of_ble_eq_true rfl)⟩ rfl (fun H1 locs1 hk1 hP1 hS => ?_)
  replace hP := join_right hP (hDD (em Sx1) (em Sm)) hk1 hP1
  refine lv_icmp_eq (tgt := 860) hx hb dL_law_317 (by decide) (fun hq => ?_) (fun hq => absurd rfl hq)
  exact K Sx1 Sm1 hrel1 _ _ _ hP hS hl
set_option maxHeartbeats 4000000 in
set_option maxRecDepth 100000 in
theorem law_cut (hc : LC p s m meth c D a b g h bb L xs) (hst : Step0 Rel f_X8_cut f_X9_cut) {x3 : Int32} (hin : ∀ k : Nat, k < 7 → vp_in (x3 + Int32.ofNat k) L) {Sx Sm : SZ} (hrel : Rel Sx Sm) (K : ∀ Sx Sm : SZ, Rel Sx Sm → LGo p l e s m below meth c D a b g h bb Sx Sm 860 [(3, .int x3), (2, .ref (b 0)), (1, .ref (a 0)), (0, .ref bb)] []) : LGo p l e s m below meth c D a b g h bb Sx Sm 322 [(3, .int x3), (2, .ref (b 0)), (1, .ref (a 0)), (0, .ref bb)] [] := by
  obtain ⟨⟨hx, hb, hml, hown, hts⟩, hKx, hKm, hDD, hX, hbl, hEB, hrt, hlocks⟩ := id hc
  have hA : ∀ q : Nat, s.heap.size ≤ q → (fun q : Nat => s.heap.size ≤ q) q := fun _ h => h
  have hbA : ¬ (fun q : Nat => s.heap.size ≤ q) bb := Nat.not_le.mpr hbl
  obtain ⟨Sx1, Sm1, r, e1, e2, hrel1⟩ := hst Sx Sm hrel
  intro H locs ls hP hS hl
  refine lv_aload_n hx hb dL_law_322 rfl (lv_at hl 2 rfl) ?_
  refine lw_call (As := []) (rest := []) ⟨hx, hb, hml, hown, hts⟩ hKx (P_left hP) (D_left (hDD (em Sx) (em Sm))) hS hA k_X8_cut q_274 blind0 (fun _ _ _ => trivial) (c_X8_cut e1) (WX_0 a g (em Sx)) rfl rfl rfl hl (Nat.le_of_ble_eq_true rfl) dL_law_323 ⟨(Nat.le_of_ble_eq_true rfl), (Nat.le_of_ble_eq_true rfl)⟩ ⟨(Nat.le_of_ble_eq_true rfl), (Nat.le_of_ble_eq_true rfl)⟩ rfl (fun H1 locs1 hk1 hP1 hS => ?_)
  replace hP := join_left hP (hDD (em Sx) (em Sm)) hk1 hP1
  clear hP1 hk1
  refine lv_aload_n hx hb dL_law_326 rfl (lv_at hl 1 rfl) ?_
  refine lw_call (As := []) (rest := [.int (Int32.ofInt r)]) ⟨hx, hb, hml, hown, hts⟩ hKm (P_right hP) (D_right (hDD (em Sx1) (em Sm))) hS hA k_X9_cut q_278 blind0 (fun _ _ _ => trivial) (c_X9_cut e2) (WM_0 b h (em Sm)) rfl rfl rfl hl (Nat.le_of_ble_eq_true rfl) dL_law_327 ⟨(Nat.le_of_ble_eq_true rfl), (Nat.le_of_ble_eq_true rfl)⟩ ⟨(Nat.le_of_ble_eq_true rfl), (Nat.le_of_ble_eq_true rfl)⟩ rfl (fun H1 locs1 hk1 hP1 hS => ?_)
  replace hP := join_right hP (hDD (em Sx1) (em Sm)) hk1 hP1
  refine lv_icmp_eq (tgt := 860) hx hb dL_law_330 (by decide) (fun hq => ?_) (fun hq => absurd rfl hq)
  exact K Sx1 Sm1 hrel1 _ _ _ hP hS hl
set_option maxHeartbeats 4000000 in
set_option maxRecDepth 100000 in
theorem law_clear (hc : LC p s m meth c D a b g h bb L xs) (hst : Step0 Rel f_X8_clear f_X9_clear) {x3 : Int32} (hin : ∀ k : Nat, k < 7 → vp_in (x3 + Int32.ofNat k) L) {Sx Sm : SZ} (hrel : Rel Sx Sm) (K : ∀ Sx Sm : SZ, Rel Sx Sm → LGo p l e s m below meth c D a b g h bb Sx Sm 860 [(3, .int x3), (2, .ref (b 0)), (1, .ref (a 0)), (0, .ref bb)] []) : LGo p l e s m below meth c D a b g h bb Sx Sm 335 [(3, .int x3), (2, .ref (b 0)), (1, .ref (a 0)), (0, .ref bb)] [] := by
  obtain ⟨⟨hx, hb, hml, hown, hts⟩, hKx, hKm, hDD, hX, hbl, hEB, hrt, hlocks⟩ := id hc
  have hA : ∀ q : Nat, s.heap.size ≤ q → (fun q : Nat => s.heap.size ≤ q) q := fun _ h => h
  have hbA : ¬ (fun q : Nat => s.heap.size ≤ q) bb := Nat.not_le.mpr hbl
  obtain ⟨Sx1, Sm1, r, e1, e2, hrel1⟩ := hst Sx Sm hrel
  intro H locs ls hP hS hl
  refine lv_aload_n hx hb dL_law_335 rfl (lv_at hl 2 rfl) ?_
  refine lw_call (As := []) (rest := []) ⟨hx, hb, hml, hown, hts⟩ hKx (P_left hP) (D_left (hDD (em Sx) (em Sm))) hS hA k_X8_clear q_282 blind0 (fun _ _ _ => trivial) (c_X8_clear e1) (WX_0 a g (em Sx)) rfl rfl rfl hl (Nat.le_of_ble_eq_true rfl) dL_law_336 ⟨(Nat.le_of_ble_eq_true rfl), (Nat.le_of_ble_eq_true rfl)⟩ ⟨(Nat.le_of_ble_eq_true rfl), (Nat.le_of_ble_eq_true rfl)⟩ rfl (fun H1 locs1 hk1 hP1 hS => ?_)
  replace hP := join_left hP (hDD (em Sx) (em Sm)) hk1 hP1
  clear hP1 hk1
  refine lv_aload_n hx hb dL_law_339 rfl (lv_at hl 1 rfl) ?_
  refine lw_call (As := []) (rest := [.int (Int32.ofInt r)]) ⟨hx, hb, hml, hown, hts⟩ hKm (P_right hP) (D_right (hDD (em Sx1) (em Sm))) hS hA k_X9_clear q_286 blind0 (fun _ _ _ => trivial) (c_X9_clear e2) (WM_0 b h (em Sm)) rfl rfl rfl hl (Nat.le_of_ble_eq_true rfl) dL_law_340 ⟨(Nat.le_of_ble_eq_true rfl), (Nat.le_of_ble_eq_true rfl)⟩ ⟨(Nat.le_of_ble_eq_true rfl), (Nat.le_of_ble_eq_true rfl)⟩ rfl (fun H1 locs1 hk1 hP1 hS => ?_)
  replace hP := join_right hP (hDD (em Sx1) (em Sm)) hk1 hP1
  refine lv_icmp_eq (tgt := 860) hx hb dL_law_343 (by decide) (fun hq => ?_) (fun hq => absurd rfl hq)
  exact K Sx1 Sm1 hrel1 _ _ _ hP hS hl
set_option maxHeartbeats 4000000 in
set_option maxRecDepth 100000 in
theorem law_view (hc : LC p s m meth c D a b g h bb L xs) (hst : Step3 Rel f_X8_view f_X9_view) {x3 : Int32} (hin : ∀ k : Nat, k < 7 → vp_in (x3 + Int32.ofNat k) L) {Sx Sm : SZ} (hrel : Rel Sx Sm) (K : ∀ Sx Sm : SZ, Rel Sx Sm → LGo p l e s m below meth c D a b g h bb Sx Sm 860 [(3, .int x3), (2, .ref (b 0)), (1, .ref (a 0)), (0, .ref bb)] []) : LGo p l e s m below meth c D a b g h bb Sx Sm 348 [(3, .int x3), (2, .ref (b 0)), (1, .ref (a 0)), (0, .ref bb)] [] := by
  obtain ⟨⟨hx, hb, hml, hown, hts⟩, hKx, hKm, hDD, hX, hbl, hEB, hrt, hlocks⟩ := id hc
  have hA : ∀ q : Nat, s.heap.size ≤ q → (fun q : Nat => s.heap.size ≤ q) q := fun _ h => h
  have hbA : ¬ (fun q : Nat => s.heap.size ≤ q) bb := Nat.not_le.mpr hbl
  obtain ⟨u1, hu1, hr1⟩ : ∃ u : Int, xs (x3 + (1 : Int32)).toNatClampNeg = Int32.ofInt u ∧ rng u := ⟨_, (Int32.ofInt_toInt _).symm, Int32.le_toInt _, Int32.toInt_lt _⟩
  obtain ⟨u2, hu2, hr2⟩ : ∃ u : Int, xs (x3 + (2 : Int32)).toNatClampNeg = Int32.ofInt u ∧ rng u := ⟨_, (Int32.ofInt_toInt _).symm, Int32.le_toInt _, Int32.toInt_lt _⟩
  obtain ⟨u3, hu3, hr3⟩ : ∃ u : Int, xs (x3 + (3 : Int32)).toNatClampNeg = Int32.ofInt u ∧ rng u := ⟨_, (Int32.ofInt_toInt _).symm, Int32.le_toInt _, Int32.toInt_lt _⟩
  obtain ⟨Sx1, Sm1, r, e1, e2, hrel1⟩ := hst Sx Sm hrel u1 u2 u3 hr1 hr2 hr3
  intro H locs ls hP hS hl
  refine lv_aload_n hx hb dL_law_348 rfl (lv_at hl 2 rfl) ?_
  refine lv_aload_n hx hb dL_law_349 rfl (lv_at hl 3 rfl) ?_
  refine lv_iload_n hx hb dL_law_350 rfl (lv_at hl 0 rfl) ?_
  refine lv_iconst (v := 1) hx hb dL_law_351 (by decide) ?_
  refine lv_iadd hx hb dL_law_352 ?_
  refine va_sld hx hb hX hbl hbA hS (hin 1 (by decide)) dL_law_353 ?_
  rw [hu1]
  refine lv_aload_n hx hb dL_law_354 rfl (lv_at hl 3 rfl) ?_
  refine lv_iload_n hx hb dL_law_355 rfl (lv_at hl 0 rfl) ?_
  refine lv_iconst (v := 2) hx hb dL_law_356 (by decide) ?_
  refine lv_iadd hx hb dL_law_357 ?_
  refine va_sld hx hb hX hbl hbA hS (hin 2 (by decide)) dL_law_358 ?_
  rw [hu2]
  refine lv_aload_n hx hb dL_law_359 rfl (lv_at hl 3 rfl) ?_
  refine lv_iload_n hx hb dL_law_360 rfl (lv_at hl 0 rfl) ?_
  refine lv_iconst (v := 3) hx hb dL_law_361 (by decide) ?_
  refine lv_iadd hx hb dL_law_362 ?_
  refine va_sld hx hb hX hbl hbA hS (hin 3 (by decide)) dL_law_363 ?_
  rw [hu3]
  refine lw_call (As := [.int (Int32.ofInt u1), .int (Int32.ofInt u2), .int (Int32.ofInt u3)]) (rest := []) ⟨hx, hb, hml, hown, hts⟩ hKx (P_left hP) (D_left (hDD (em Sx) (em Sm))) hS hA k_X8_view q_290 blind0 (fun _ _ _ => trivial) (c_X8_view e1) (WX_0 a g (em Sx)) rfl rfl rfl hl (Nat.le_of_ble_eq_true rfl) dL_law_364 ⟨(Nat.le_of_ble_eq_true rfl), (Nat.le_of_ble_eq_true rfl)⟩ ⟨(Nat.le_of_ble_eq_true rfl), (Nat.le_of_ble_eq_true rfl)⟩ rfl (fun H1 locs1 hk1 hP1 hS => ?_)
  replace hP := join_left hP (hDD (em Sx) (em Sm)) hk1 hP1
  clear hP1 hk1
  refine lv_aload_n hx hb dL_law_367 rfl (lv_at hl 1 rfl) ?_
  refine lv_aload_n hx hb dL_law_368 rfl (lv_at hl 3 rfl) ?_
  refine lv_iload_n hx hb dL_law_369 rfl (lv_at hl 0 rfl) ?_
  refine lv_iconst (v := 1) hx hb dL_law_370 (by decide) ?_
  refine lv_iadd hx hb dL_law_371 ?_
  refine va_sld hx hb hX hbl hbA hS (hin 1 (by decide)) dL_law_372 ?_
  rw [hu1]
  refine lv_aload_n hx hb dL_law_373 rfl (lv_at hl 3 rfl) ?_
  refine lv_iload_n hx hb dL_law_374 rfl (lv_at hl 0 rfl) ?_
  refine lv_iconst (v := 2) hx hb dL_law_375 (by decide) ?_
  refine lv_iadd hx hb dL_law_376 ?_
  refine va_sld hx hb hX hbl hbA hS (hin 2 (by decide)) dL_law_377 ?_
  rw [hu2]
  refine lv_aload_n hx hb dL_law_378 rfl (lv_at hl 3 rfl) ?_
  refine lv_iload_n hx hb dL_law_379 rfl (lv_at hl 0 rfl) ?_
  refine lv_iconst (v := 3) hx hb dL_law_380 (by decide) ?_
  refine lv_iadd hx hb dL_law_381 ?_
  refine va_sld hx hb hX hbl hbA hS (hin 3 (by decide)) dL_law_382 ?_
  rw [hu3]
  refine lw_call (As := [.int (Int32.ofInt u1), .int (Int32.ofInt u2), .int (Int32.ofInt u3)]) (rest := [.int (Int32.ofInt r)]) ⟨hx, hb, hml, hown, hts⟩ hKm (P_right hP) (D_right (hDD (em Sx1) (em Sm))) hS hA k_X9_view q_298 blind0 (fun _ _ _ => trivial) (c_X9_view e2) (WM_0 b h (em Sm)) rfl rfl rfl hl (Nat.le_of_ble_eq_true rfl) dL_law_383 ⟨(Nat.le_of_ble_eq_true rfl), (Nat.le_of_ble_eq_true rfl)⟩ ⟨(Nat.le_of_ble_eq_true rfl), (Nat.le_of_ble_eq_true rfl)⟩ rfl (fun H1 locs1 hk1 hP1 hS => ?_)
  replace hP := join_right hP (hDD (em Sx1) (em Sm)) hk1 hP1
  refine lv_icmp_eq (tgt := 860) hx hb dL_law_386 (by decide) (fun hq => ?_) (fun hq => absurd rfl hq)
  exact K Sx1 Sm1 hrel1 _ _ _ hP hS hl
set_option maxHeartbeats 4000000 in
set_option maxRecDepth 100000 in
theorem law_turn (hc : LC p s m meth c D a b g h bb L xs) (hst : Step1 Rel f_X8_turn f_X9_turn) {x3 : Int32} (hin : ∀ k : Nat, k < 7 → vp_in (x3 + Int32.ofNat k) L) {Sx Sm : SZ} (hrel : Rel Sx Sm) (K : ∀ Sx Sm : SZ, Rel Sx Sm → LGo p l e s m below meth c D a b g h bb Sx Sm 860 [(3, .int x3), (2, .ref (b 0)), (1, .ref (a 0)), (0, .ref bb)] []) : LGo p l e s m below meth c D a b g h bb Sx Sm 391 [(3, .int x3), (2, .ref (b 0)), (1, .ref (a 0)), (0, .ref bb)] [] := by
  obtain ⟨⟨hx, hb, hml, hown, hts⟩, hKx, hKm, hDD, hX, hbl, hEB, hrt, hlocks⟩ := id hc
  have hA : ∀ q : Nat, s.heap.size ≤ q → (fun q : Nat => s.heap.size ≤ q) q := fun _ h => h
  have hbA : ¬ (fun q : Nat => s.heap.size ≤ q) bb := Nat.not_le.mpr hbl
  obtain ⟨u1, hu1, hr1⟩ : ∃ u : Int, xs (x3 + (1 : Int32)).toNatClampNeg = Int32.ofInt u ∧ rng u := ⟨_, (Int32.ofInt_toInt _).symm, Int32.le_toInt _, Int32.toInt_lt _⟩
  obtain ⟨Sx1, Sm1, r, e1, e2, hrel1⟩ := hst Sx Sm hrel u1 hr1
  intro H locs ls hP hS hl
  refine lv_aload_n hx hb dL_law_391 rfl (lv_at hl 2 rfl) ?_
  refine lv_aload_n hx hb dL_law_392 rfl (lv_at hl 3 rfl) ?_
  refine lv_iload_n hx hb dL_law_393 rfl (lv_at hl 0 rfl) ?_
  refine lv_iconst (v := 1) hx hb dL_law_394 (by decide) ?_
  refine lv_iadd hx hb dL_law_395 ?_
  refine va_sld hx hb hX hbl hbA hS (hin 1 (by decide)) dL_law_396 ?_
  rw [hu1]
  refine lw_call (As := [.int (Int32.ofInt u1)]) (rest := []) ⟨hx, hb, hml, hown, hts⟩ hKx (P_left hP) (D_left (hDD (em Sx) (em Sm))) hS hA k_X8_turn q_304 blind0 (fun _ _ _ => trivial) (c_X8_turn e1) (WX_0 a g (em Sx)) rfl rfl rfl hl (Nat.le_of_ble_eq_true rfl) dL_law_397 ⟨(Nat.le_of_ble_eq_true rfl), (Nat.le_of_ble_eq_true rfl)⟩ ⟨(Nat.le_of_ble_eq_true rfl), (Nat.le_of_ble_eq_true rfl)⟩ rfl (fun H1 locs1 hk1 hP1 hS => ?_)
  replace hP := join_left hP (hDD (em Sx) (em Sm)) hk1 hP1
  clear hP1 hk1
  refine lv_aload_n hx hb dL_law_400 rfl (lv_at hl 1 rfl) ?_
  refine lv_aload_n hx hb dL_law_401 rfl (lv_at hl 3 rfl) ?_
  refine lv_iload_n hx hb dL_law_402 rfl (lv_at hl 0 rfl) ?_
  refine lv_iconst (v := 1) hx hb dL_law_403 (by decide) ?_
  refine lv_iadd hx hb dL_law_404 ?_
  refine va_sld hx hb hX hbl hbA hS (hin 1 (by decide)) dL_law_405 ?_
  rw [hu1]
  refine lw_call (As := [.int (Int32.ofInt u1)]) (rest := [.int (Int32.ofInt r)]) ⟨hx, hb, hml, hown, hts⟩ hKm (P_right hP) (D_right (hDD (em Sx1) (em Sm))) hS hA k_X9_turn q_312 blind0 (fun _ _ _ => trivial) (c_X9_turn e2) (WM_0 b h (em Sm)) rfl rfl rfl hl (Nat.le_of_ble_eq_true rfl) dL_law_406 ⟨(Nat.le_of_ble_eq_true rfl), (Nat.le_of_ble_eq_true rfl)⟩ ⟨(Nat.le_of_ble_eq_true rfl), (Nat.le_of_ble_eq_true rfl)⟩ rfl (fun H1 locs1 hk1 hP1 hS => ?_)
  replace hP := join_right hP (hDD (em Sx1) (em Sm)) hk1 hP1
  refine lv_icmp_eq (tgt := 860) hx hb dL_law_409 (by decide) (fun hq => ?_) (fun hq => absurd rfl hq)
  exact K Sx1 Sm1 hrel1 _ _ _ hP hS hl
set_option maxHeartbeats 4000000 in
set_option maxRecDepth 100000 in
theorem law_move (hc : LC p s m meth c D a b g h bb L xs) (hst : Step3 Rel f_X8_move f_X9_move) {x3 : Int32} (hin : ∀ k : Nat, k < 7 → vp_in (x3 + Int32.ofNat k) L) {Sx Sm : SZ} (hrel : Rel Sx Sm) (K : ∀ Sx Sm : SZ, Rel Sx Sm → LGo p l e s m below meth c D a b g h bb Sx Sm 860 [(3, .int x3), (2, .ref (b 0)), (1, .ref (a 0)), (0, .ref bb)] []) : LGo p l e s m below meth c D a b g h bb Sx Sm 414 [(3, .int x3), (2, .ref (b 0)), (1, .ref (a 0)), (0, .ref bb)] [] := by
  obtain ⟨⟨hx, hb, hml, hown, hts⟩, hKx, hKm, hDD, hX, hbl, hEB, hrt, hlocks⟩ := id hc
  have hA : ∀ q : Nat, s.heap.size ≤ q → (fun q : Nat => s.heap.size ≤ q) q := fun _ h => h
  have hbA : ¬ (fun q : Nat => s.heap.size ≤ q) bb := Nat.not_le.mpr hbl
  obtain ⟨u1, hu1, hr1⟩ : ∃ u : Int, xs (x3 + (1 : Int32)).toNatClampNeg = Int32.ofInt u ∧ rng u := ⟨_, (Int32.ofInt_toInt _).symm, Int32.le_toInt _, Int32.toInt_lt _⟩
  obtain ⟨u2, hu2, hr2⟩ : ∃ u : Int, xs (x3 + (2 : Int32)).toNatClampNeg = Int32.ofInt u ∧ rng u := ⟨_, (Int32.ofInt_toInt _).symm, Int32.le_toInt _, Int32.toInt_lt _⟩
  obtain ⟨u3, hu3, hr3⟩ : ∃ u : Int, xs (x3 + (3 : Int32)).toNatClampNeg = Int32.ofInt u ∧ rng u := ⟨_, (Int32.ofInt_toInt _).symm, Int32.le_toInt _, Int32.toInt_lt _⟩
  obtain ⟨Sx1, Sm1, r, e1, e2, hrel1⟩ := hst Sx Sm hrel u1 u2 u3 hr1 hr2 hr3
  intro H locs ls hP hS hl
  refine lv_aload_n hx hb dL_law_414 rfl (lv_at hl 2 rfl) ?_
  refine lv_aload_n hx hb dL_law_415 rfl (lv_at hl 3 rfl) ?_
  refine lv_iload_n hx hb dL_law_416 rfl (lv_at hl 0 rfl) ?_
  refine lv_iconst (v := 1) hx hb dL_law_417 (by decide) ?_
  refine lv_iadd hx hb dL_law_418 ?_
  refine va_sld hx hb hX hbl hbA hS (hin 1 (by decide)) dL_law_419 ?_
  rw [hu1]
  refine lv_aload_n hx hb dL_law_420 rfl (lv_at hl 3 rfl) ?_
  refine lv_iload_n hx hb dL_law_421 rfl (lv_at hl 0 rfl) ?_
  refine lv_iconst (v := 2) hx hb dL_law_422 (by decide) ?_
  refine lv_iadd hx hb dL_law_423 ?_
  refine va_sld hx hb hX hbl hbA hS (hin 2 (by decide)) dL_law_424 ?_
  rw [hu2]
  refine lv_aload_n hx hb dL_law_425 rfl (lv_at hl 3 rfl) ?_
  refine lv_iload_n hx hb dL_law_426 rfl (lv_at hl 0 rfl) ?_
  refine lv_iconst (v := 3) hx hb dL_law_427 (by decide) ?_
  refine lv_iadd hx hb dL_law_428 ?_
  refine va_sld hx hb hX hbl hbA hS (hin 3 (by decide)) dL_law_429 ?_
  rw [hu3]
  refine lw_call (As := [.int (Int32.ofInt u1), .int (Int32.ofInt u2), .int (Int32.ofInt u3)]) (rest := []) ⟨hx, hb, hml, hown, hts⟩ hKx (P_left hP) (D_left (hDD (em Sx) (em Sm))) hS hA k_X8_move q_316 blind0 (fun _ _ _ => trivial) (c_X8_move e1) (WX_0 a g (em Sx)) rfl rfl rfl hl (Nat.le_of_ble_eq_true rfl) dL_law_430 ⟨(Nat.le_of_ble_eq_true rfl), (Nat.le_of_ble_eq_true rfl)⟩ ⟨(Nat.le_of_ble_eq_true rfl), (Nat.le_of_ble_eq_true rfl)⟩ rfl (fun H1 locs1 hk1 hP1 hS => ?_)
  replace hP := join_left hP (hDD (em Sx) (em Sm)) hk1 hP1
  clear hP1 hk1
  refine lv_aload_n hx hb dL_law_433 rfl (lv_at hl 1 rfl) ?_
  refine lv_aload_n hx hb dL_law_434 rfl (lv_at hl 3 rfl) ?_
  refine lv_iload_n hx hb dL_law_435 rfl (lv_at hl 0 rfl) ?_
  refine lv_iconst (v := 1) hx hb dL_law_436 (by decide) ?_
  refine lv_iadd hx hb dL_law_437 ?_
  refine va_sld hx hb hX hbl hbA hS (hin 1 (by decide)) dL_law_438 ?_
  rw [hu1]
  refine lv_aload_n hx hb dL_law_439 rfl (lv_at hl 3 rfl) ?_
  refine lv_iload_n hx hb dL_law_440 rfl (lv_at hl 0 rfl) ?_
  refine lv_iconst (v := 2) hx hb dL_law_441 (by decide) ?_
  refine lv_iadd hx hb dL_law_442 ?_
  refine va_sld hx hb hX hbl hbA hS (hin 2 (by decide)) dL_law_443 ?_
  rw [hu2]
  refine lv_aload_n hx hb dL_law_444 rfl (lv_at hl 3 rfl) ?_
  refine lv_iload_n hx hb dL_law_445 rfl (lv_at hl 0 rfl) ?_
  refine lv_iconst (v := 3) hx hb dL_law_446 (by decide) ?_
  refine lv_iadd hx hb dL_law_447 ?_
  refine va_sld hx hb hX hbl hbA hS (hin 3 (by decide)) dL_law_448 ?_
  rw [hu3]
  refine lw_call (As := [.int (Int32.ofInt u1), .int (Int32.ofInt u2), .int (Int32.ofInt u3)]) (rest := [.int (Int32.ofInt r)]) ⟨hx, hb, hml, hown, hts⟩ hKm (P_right hP) (D_right (hDD (em Sx1) (em Sm))) hS hA k_X9_move q_324 blind0 (fun _ _ _ => trivial) (c_X9_move e2) (WM_0 b h (em Sm)) rfl rfl rfl hl (Nat.le_of_ble_eq_true rfl) dL_law_449 ⟨(Nat.le_of_ble_eq_true rfl), (Nat.le_of_ble_eq_true rfl)⟩ ⟨(Nat.le_of_ble_eq_true rfl), (Nat.le_of_ble_eq_true rfl)⟩ rfl (fun H1 locs1 hk1 hP1 hS => ?_)
  replace hP := join_right hP (hDD (em Sx1) (em Sm)) hk1 hP1
  refine lv_icmp_eq (tgt := 860) hx hb dL_law_452 (by decide) (fun hq => ?_) (fun hq => absurd rfl hq)
  exact K Sx1 Sm1 hrel1 _ _ _ hP hS hl
set_option maxHeartbeats 4000000 in
set_option maxRecDepth 100000 in
theorem law_ofPoint (hc : LC p s m meth c D a b g h bb L xs) (hst : Step2 Rel f_X8_ofPoint f_X9_ofPoint) {x3 : Int32} (hin : ∀ k : Nat, k < 7 → vp_in (x3 + Int32.ofNat k) L) {Sx Sm : SZ} (hrel : Rel Sx Sm) (K : ∀ Sx Sm : SZ, Rel Sx Sm → LGo p l e s m below meth c D a b g h bb Sx Sm 860 [(3, .int x3), (2, .ref (b 0)), (1, .ref (a 0)), (0, .ref bb)] []) : LGo p l e s m below meth c D a b g h bb Sx Sm 457 [(3, .int x3), (2, .ref (b 0)), (1, .ref (a 0)), (0, .ref bb)] [] := by
  obtain ⟨⟨hx, hb, hml, hown, hts⟩, hKx, hKm, hDD, hX, hbl, hEB, hrt, hlocks⟩ := id hc
  have hA : ∀ q : Nat, s.heap.size ≤ q → (fun q : Nat => s.heap.size ≤ q) q := fun _ h => h
  have hbA : ¬ (fun q : Nat => s.heap.size ≤ q) bb := Nat.not_le.mpr hbl
  obtain ⟨u1, hu1, hr1⟩ : ∃ u : Int, xs (x3 + (1 : Int32)).toNatClampNeg = Int32.ofInt u ∧ rng u := ⟨_, (Int32.ofInt_toInt _).symm, Int32.le_toInt _, Int32.toInt_lt _⟩
  obtain ⟨u2, hu2, hr2⟩ : ∃ u : Int, xs (x3 + (2 : Int32)).toNatClampNeg = Int32.ofInt u ∧ rng u := ⟨_, (Int32.ofInt_toInt _).symm, Int32.le_toInt _, Int32.toInt_lt _⟩
  obtain ⟨Sx1, Sm1, r, e1, e2, hrel1⟩ := hst Sx Sm hrel u1 u2 hr1 hr2
  intro H locs ls hP hS hl
  refine lv_aload_n hx hb dL_law_457 rfl (lv_at hl 2 rfl) ?_
  refine lv_aload_n hx hb dL_law_458 rfl (lv_at hl 3 rfl) ?_
  refine lv_iload_n hx hb dL_law_459 rfl (lv_at hl 0 rfl) ?_
  refine lv_iconst (v := 1) hx hb dL_law_460 (by decide) ?_
  refine lv_iadd hx hb dL_law_461 ?_
  refine va_sld hx hb hX hbl hbA hS (hin 1 (by decide)) dL_law_462 ?_
  rw [hu1]
  refine lv_aload_n hx hb dL_law_463 rfl (lv_at hl 3 rfl) ?_
  refine lv_iload_n hx hb dL_law_464 rfl (lv_at hl 0 rfl) ?_
  refine lv_iconst (v := 2) hx hb dL_law_465 (by decide) ?_
  refine lv_iadd hx hb dL_law_466 ?_
  refine va_sld hx hb hX hbl hbA hS (hin 2 (by decide)) dL_law_467 ?_
  rw [hu2]
  refine lw_call (As := [.int (Int32.ofInt u1), .int (Int32.ofInt u2)]) (rest := []) ⟨hx, hb, hml, hown, hts⟩ hKx (P_left hP) (D_left (hDD (em Sx) (em Sm))) hS hA k_X8_ofPoint q_328 blind0 (fun _ _ _ => trivial) (c_X8_ofPoint e1) (WX_0 a g (em Sx)) rfl rfl rfl hl (Nat.le_of_ble_eq_true rfl) dL_law_468 ⟨(Nat.le_of_ble_eq_true rfl), (Nat.le_of_ble_eq_true rfl)⟩ ⟨(Nat.le_of_ble_eq_true rfl), (Nat.le_of_ble_eq_true rfl)⟩ rfl (fun H1 locs1 hk1 hP1 hS => ?_)
  replace hP := join_left hP (hDD (em Sx) (em Sm)) hk1 hP1
  clear hP1 hk1
  refine lv_aload_n hx hb dL_law_471 rfl (lv_at hl 1 rfl) ?_
  refine lv_aload_n hx hb dL_law_472 rfl (lv_at hl 3 rfl) ?_
  refine lv_iload_n hx hb dL_law_473 rfl (lv_at hl 0 rfl) ?_
  refine lv_iconst (v := 1) hx hb dL_law_474 (by decide) ?_
  refine lv_iadd hx hb dL_law_475 ?_
  refine va_sld hx hb hX hbl hbA hS (hin 1 (by decide)) dL_law_476 ?_
  rw [hu1]
  refine lv_aload_n hx hb dL_law_477 rfl (lv_at hl 3 rfl) ?_
  refine lv_iload_n hx hb dL_law_478 rfl (lv_at hl 0 rfl) ?_
  refine lv_iconst (v := 2) hx hb dL_law_479 (by decide) ?_
  refine lv_iadd hx hb dL_law_480 ?_
  refine va_sld hx hb hX hbl hbA hS (hin 2 (by decide)) dL_law_481 ?_
  rw [hu2]
  refine lw_call (As := [.int (Int32.ofInt u1), .int (Int32.ofInt u2)]) (rest := [.int (Int32.ofInt r)]) ⟨hx, hb, hml, hown, hts⟩ hKm (P_right hP) (D_right (hDD (em Sx1) (em Sm))) hS hA k_X9_ofPoint q_535 blind0 (fun _ _ _ => trivial) (c_X9_ofPoint e2) (WM_0 b h (em Sm)) rfl rfl rfl hl (Nat.le_of_ble_eq_true rfl) dL_law_482 ⟨(Nat.le_of_ble_eq_true rfl), (Nat.le_of_ble_eq_true rfl)⟩ ⟨(Nat.le_of_ble_eq_true rfl), (Nat.le_of_ble_eq_true rfl)⟩ rfl (fun H1 locs1 hk1 hP1 hS => ?_)
  replace hP := join_right hP (hDD (em Sx1) (em Sm)) hk1 hP1
  refine lv_icmp_eq (tgt := 860) hx hb dL_law_485 (by decide) (fun hq => ?_) (fun hq => absurd rfl hq)
  exact K Sx1 Sm1 hrel1 _ _ _ hP hS hl
set_option maxHeartbeats 4000000 in
set_option maxRecDepth 100000 in
theorem law_ofFace (hc : LC p s m meth c D a b g h bb L xs) (hst : Step2 Rel f_X8_ofFace f_X9_ofFace) {x3 : Int32} (hin : ∀ k : Nat, k < 7 → vp_in (x3 + Int32.ofNat k) L) {Sx Sm : SZ} (hrel : Rel Sx Sm) (K : ∀ Sx Sm : SZ, Rel Sx Sm → LGo p l e s m below meth c D a b g h bb Sx Sm 860 [(3, .int x3), (2, .ref (b 0)), (1, .ref (a 0)), (0, .ref bb)] []) : LGo p l e s m below meth c D a b g h bb Sx Sm 490 [(3, .int x3), (2, .ref (b 0)), (1, .ref (a 0)), (0, .ref bb)] [] := by
  obtain ⟨⟨hx, hb, hml, hown, hts⟩, hKx, hKm, hDD, hX, hbl, hEB, hrt, hlocks⟩ := id hc
  have hA : ∀ q : Nat, s.heap.size ≤ q → (fun q : Nat => s.heap.size ≤ q) q := fun _ h => h
  have hbA : ¬ (fun q : Nat => s.heap.size ≤ q) bb := Nat.not_le.mpr hbl
  obtain ⟨u1, hu1, hr1⟩ : ∃ u : Int, xs (x3 + (1 : Int32)).toNatClampNeg = Int32.ofInt u ∧ rng u := ⟨_, (Int32.ofInt_toInt _).symm, Int32.le_toInt _, Int32.toInt_lt _⟩
  obtain ⟨u2, hu2, hr2⟩ : ∃ u : Int, xs (x3 + (2 : Int32)).toNatClampNeg = Int32.ofInt u ∧ rng u := ⟨_, (Int32.ofInt_toInt _).symm, Int32.le_toInt _, Int32.toInt_lt _⟩
  obtain ⟨Sx1, Sm1, r, e1, e2, hrel1⟩ := hst Sx Sm hrel u1 u2 hr1 hr2
  intro H locs ls hP hS hl
  refine lv_aload_n hx hb dL_law_490 rfl (lv_at hl 2 rfl) ?_
  refine lv_aload_n hx hb dL_law_491 rfl (lv_at hl 3 rfl) ?_
  refine lv_iload_n hx hb dL_law_492 rfl (lv_at hl 0 rfl) ?_
  refine lv_iconst (v := 1) hx hb dL_law_493 (by decide) ?_
  refine lv_iadd hx hb dL_law_494 ?_
  refine va_sld hx hb hX hbl hbA hS (hin 1 (by decide)) dL_law_495 ?_
  rw [hu1]
  refine lv_aload_n hx hb dL_law_496 rfl (lv_at hl 3 rfl) ?_
  refine lv_iload_n hx hb dL_law_497 rfl (lv_at hl 0 rfl) ?_
  refine lv_iconst (v := 2) hx hb dL_law_498 (by decide) ?_
  refine lv_iadd hx hb dL_law_499 ?_
  refine va_sld hx hb hX hbl hbA hS (hin 2 (by decide)) dL_law_500 ?_
  rw [hu2]
  refine lw_call (As := [.int (Int32.ofInt u1), .int (Int32.ofInt u2)]) (rest := []) ⟨hx, hb, hml, hown, hts⟩ hKx (P_left hP) (D_left (hDD (em Sx) (em Sm))) hS hA k_X8_ofFace q_628 blind0 (fun _ _ _ => trivial) (c_X8_ofFace e1) (WX_0 a g (em Sx)) rfl rfl rfl hl (Nat.le_of_ble_eq_true rfl) dL_law_501 ⟨(Nat.le_of_ble_eq_true rfl), (Nat.le_of_ble_eq_true rfl)⟩ ⟨(Nat.le_of_ble_eq_true rfl), (Nat.le_of_ble_eq_true rfl)⟩ rfl (fun H1 locs1 hk1 hP1 hS => ?_)
  replace hP := join_left hP (hDD (em Sx) (em Sm)) hk1 hP1
  clear hP1 hk1
  refine lv_aload_n hx hb dL_law_504 rfl (lv_at hl 1 rfl) ?_
  refine lv_aload_n hx hb dL_law_505 rfl (lv_at hl 3 rfl) ?_
  refine lv_iload_n hx hb dL_law_506 rfl (lv_at hl 0 rfl) ?_
  refine lv_iconst (v := 1) hx hb dL_law_507 (by decide) ?_
  refine lv_iadd hx hb dL_law_508 ?_
  refine va_sld hx hb hX hbl hbA hS (hin 1 (by decide)) dL_law_509 ?_
  rw [hu1]
  refine lv_aload_n hx hb dL_law_510 rfl (lv_at hl 3 rfl) ?_
  refine lv_iload_n hx hb dL_law_511 rfl (lv_at hl 0 rfl) ?_
  refine lv_iconst (v := 2) hx hb dL_law_512 (by decide) ?_
  refine lv_iadd hx hb dL_law_513 ?_
  refine va_sld hx hb hX hbl hbA hS (hin 2 (by decide)) dL_law_514 ?_
  rw [hu2]
  refine lw_call (As := [.int (Int32.ofInt u1), .int (Int32.ofInt u2)]) (rest := [.int (Int32.ofInt r)]) ⟨hx, hb, hml, hown, hts⟩ hKm (P_right hP) (D_right (hDD (em Sx1) (em Sm))) hS hA k_X9_ofFace q_641 blind0 (fun _ _ _ => trivial) (c_X9_ofFace e2) (WM_0 b h (em Sm)) rfl rfl rfl hl (Nat.le_of_ble_eq_true rfl) dL_law_515 ⟨(Nat.le_of_ble_eq_true rfl), (Nat.le_of_ble_eq_true rfl)⟩ ⟨(Nat.le_of_ble_eq_true rfl), (Nat.le_of_ble_eq_true rfl)⟩ rfl (fun H1 locs1 hk1 hP1 hS => ?_)
  replace hP := join_right hP (hDD (em Sx1) (em Sm)) hk1 hP1
  refine lv_icmp_eq (tgt := 860) hx hb dL_law_518 (by decide) (fun hq => ?_) (fun hq => absurd rfl hq)
  exact K Sx1 Sm1 hrel1 _ _ _ hP hS hl
set_option maxHeartbeats 4000000 in
set_option maxRecDepth 100000 in
theorem law_ofEdge (hc : LC p s m meth c D a b g h bb L xs) (hst : Step2 Rel f_X8_ofEdge f_X9_ofEdge) {x3 : Int32} (hin : ∀ k : Nat, k < 7 → vp_in (x3 + Int32.ofNat k) L) {Sx Sm : SZ} (hrel : Rel Sx Sm) (K : ∀ Sx Sm : SZ, Rel Sx Sm → LGo p l e s m below meth c D a b g h bb Sx Sm 860 [(3, .int x3), (2, .ref (b 0)), (1, .ref (a 0)), (0, .ref bb)] []) : LGo p l e s m below meth c D a b g h bb Sx Sm 523 [(3, .int x3), (2, .ref (b 0)), (1, .ref (a 0)), (0, .ref bb)] [] := by
  obtain ⟨⟨hx, hb, hml, hown, hts⟩, hKx, hKm, hDD, hX, hbl, hEB, hrt, hlocks⟩ := id hc
  have hA : ∀ q : Nat, s.heap.size ≤ q → (fun q : Nat => s.heap.size ≤ q) q := fun _ h => h
  have hbA : ¬ (fun q : Nat => s.heap.size ≤ q) bb := Nat.not_le.mpr hbl
  obtain ⟨u1, hu1, hr1⟩ : ∃ u : Int, xs (x3 + (1 : Int32)).toNatClampNeg = Int32.ofInt u ∧ rng u := ⟨_, (Int32.ofInt_toInt _).symm, Int32.le_toInt _, Int32.toInt_lt _⟩
  obtain ⟨u2, hu2, hr2⟩ : ∃ u : Int, xs (x3 + (2 : Int32)).toNatClampNeg = Int32.ofInt u ∧ rng u := ⟨_, (Int32.ofInt_toInt _).symm, Int32.le_toInt _, Int32.toInt_lt _⟩
  obtain ⟨Sx1, Sm1, r, e1, e2, hrel1⟩ := hst Sx Sm hrel u1 u2 hr1 hr2
  intro H locs ls hP hS hl
  refine lv_aload_n hx hb dL_law_523 rfl (lv_at hl 2 rfl) ?_
  refine lv_aload_n hx hb dL_law_524 rfl (lv_at hl 3 rfl) ?_
  refine lv_iload_n hx hb dL_law_525 rfl (lv_at hl 0 rfl) ?_
  refine lv_iconst (v := 1) hx hb dL_law_526 (by decide) ?_
  refine lv_iadd hx hb dL_law_527 ?_
  refine va_sld hx hb hX hbl hbA hS (hin 1 (by decide)) dL_law_528 ?_
  rw [hu1]
  refine lv_aload_n hx hb dL_law_529 rfl (lv_at hl 3 rfl) ?_
  refine lv_iload_n hx hb dL_law_530 rfl (lv_at hl 0 rfl) ?_
  refine lv_iconst (v := 2) hx hb dL_law_531 (by decide) ?_
  refine lv_iadd hx hb dL_law_532 ?_
  refine va_sld hx hb hX hbl hbA hS (hin 2 (by decide)) dL_law_533 ?_
  rw [hu2]
  refine lw_call (As := [.int (Int32.ofInt u1), .int (Int32.ofInt u2)]) (rest := []) ⟨hx, hb, hml, hown, hts⟩ hKx (P_left hP) (D_left (hDD (em Sx) (em Sm))) hS hA k_X8_ofEdge q_649 blind0 (fun _ _ _ => trivial) (c_X8_ofEdge e1) (WX_0 a g (em Sx)) rfl rfl rfl hl (Nat.le_of_ble_eq_true rfl) dL_law_534 ⟨(Nat.le_of_ble_eq_true rfl), (Nat.le_of_ble_eq_true rfl)⟩ ⟨(Nat.le_of_ble_eq_true rfl), (Nat.le_of_ble_eq_true rfl)⟩ rfl (fun H1 locs1 hk1 hP1 hS => ?_)
  replace hP := join_left hP (hDD (em Sx) (em Sm)) hk1 hP1
  clear hP1 hk1
  refine lv_aload_n hx hb dL_law_537 rfl (lv_at hl 1 rfl) ?_
  refine lv_aload_n hx hb dL_law_538 rfl (lv_at hl 3 rfl) ?_
  refine lv_iload_n hx hb dL_law_539 rfl (lv_at hl 0 rfl) ?_
  refine lv_iconst (v := 1) hx hb dL_law_540 (by decide) ?_
  refine lv_iadd hx hb dL_law_541 ?_
  refine va_sld hx hb hX hbl hbA hS (hin 1 (by decide)) dL_law_542 ?_
  rw [hu1]
  refine lv_aload_n hx hb dL_law_543 rfl (lv_at hl 3 rfl) ?_
  refine lv_iload_n hx hb dL_law_544 rfl (lv_at hl 0 rfl) ?_
  refine lv_iconst (v := 2) hx hb dL_law_545 (by decide) ?_
  refine lv_iadd hx hb dL_law_546 ?_
  refine va_sld hx hb hX hbl hbA hS (hin 2 (by decide)) dL_law_547 ?_
  rw [hu2]
  refine lw_call (As := [.int (Int32.ofInt u1), .int (Int32.ofInt u2)]) (rest := [.int (Int32.ofInt r)]) ⟨hx, hb, hml, hown, hts⟩ hKm (P_right hP) (D_right (hDD (em Sx1) (em Sm))) hS hA k_X9_ofEdge q_665 blind0 (fun _ _ _ => trivial) (c_X9_ofEdge e2) (WM_0 b h (em Sm)) rfl rfl rfl hl (Nat.le_of_ble_eq_true rfl) dL_law_548 ⟨(Nat.le_of_ble_eq_true rfl), (Nat.le_of_ble_eq_true rfl)⟩ ⟨(Nat.le_of_ble_eq_true rfl), (Nat.le_of_ble_eq_true rfl)⟩ rfl (fun H1 locs1 hk1 hP1 hS => ?_)
  replace hP := join_right hP (hDD (em Sx1) (em Sm)) hk1 hP1
  refine lv_icmp_eq (tgt := 860) hx hb dL_law_551 (by decide) (fun hq => ?_) (fun hq => absurd rfl hq)
  exact K Sx1 Sm1 hrel1 _ _ _ hP hS hl
set_option maxHeartbeats 4000000 in
set_option maxRecDepth 100000 in
theorem law_edge (hc : LC p s m meth c D a b g h bb L xs) (hst : Step2 Rel f_X8_edge f_X9_edge) {x3 : Int32} (hin : ∀ k : Nat, k < 7 → vp_in (x3 + Int32.ofNat k) L) {Sx Sm : SZ} (hrel : Rel Sx Sm) (K : ∀ Sx Sm : SZ, Rel Sx Sm → LGo p l e s m below meth c D a b g h bb Sx Sm 860 [(3, .int x3), (2, .ref (b 0)), (1, .ref (a 0)), (0, .ref bb)] []) : LGo p l e s m below meth c D a b g h bb Sx Sm 556 [(3, .int x3), (2, .ref (b 0)), (1, .ref (a 0)), (0, .ref bb)] [] := by
  obtain ⟨⟨hx, hb, hml, hown, hts⟩, hKx, hKm, hDD, hX, hbl, hEB, hrt, hlocks⟩ := id hc
  have hA : ∀ q : Nat, s.heap.size ≤ q → (fun q : Nat => s.heap.size ≤ q) q := fun _ h => h
  have hbA : ¬ (fun q : Nat => s.heap.size ≤ q) bb := Nat.not_le.mpr hbl
  obtain ⟨u1, hu1, hr1⟩ : ∃ u : Int, xs (x3 + (1 : Int32)).toNatClampNeg = Int32.ofInt u ∧ rng u := ⟨_, (Int32.ofInt_toInt _).symm, Int32.le_toInt _, Int32.toInt_lt _⟩
  obtain ⟨u2, hu2, hr2⟩ : ∃ u : Int, xs (x3 + (2 : Int32)).toNatClampNeg = Int32.ofInt u ∧ rng u := ⟨_, (Int32.ofInt_toInt _).symm, Int32.le_toInt _, Int32.toInt_lt _⟩
  obtain ⟨Sx1, Sm1, r, e1, e2, hrel1⟩ := hst Sx Sm hrel u1 u2 hr1 hr2
  intro H locs ls hP hS hl
  refine lv_aload_n hx hb dL_law_556 rfl (lv_at hl 2 rfl) ?_
  refine lv_aload_n hx hb dL_law_557 rfl (lv_at hl 3 rfl) ?_
  refine lv_iload_n hx hb dL_law_558 rfl (lv_at hl 0 rfl) ?_
  refine lv_iconst (v := 1) hx hb dL_law_559 (by decide) ?_
  refine lv_iadd hx hb dL_law_560 ?_
  refine va_sld hx hb hX hbl hbA hS (hin 1 (by decide)) dL_law_561 ?_
  rw [hu1]
  refine lv_aload_n hx hb dL_law_562 rfl (lv_at hl 3 rfl) ?_
  refine lv_iload_n hx hb dL_law_563 rfl (lv_at hl 0 rfl) ?_
  refine lv_iconst (v := 2) hx hb dL_law_564 (by decide) ?_
  refine lv_iadd hx hb dL_law_565 ?_
  refine va_sld hx hb hX hbl hbA hS (hin 2 (by decide)) dL_law_566 ?_
  rw [hu2]
  refine lw_call (As := [.int (Int32.ofInt u1), .int (Int32.ofInt u2)]) (rest := []) ⟨hx, hb, hml, hown, hts⟩ hKx (P_left hP) (D_left (hDD (em Sx) (em Sm))) hS hA k_X8_edge q_677 blind0 (fun _ _ _ => trivial) (c_X8_edge e1) (WX_0 a g (em Sx)) rfl rfl rfl hl (Nat.le_of_ble_eq_true rfl) dL_law_567 ⟨(Nat.le_of_ble_eq_true rfl), (Nat.le_of_ble_eq_true rfl)⟩ ⟨(Nat.le_of_ble_eq_true rfl), (Nat.le_of_ble_eq_true rfl)⟩ rfl (fun H1 locs1 hk1 hP1 hS => ?_)
  replace hP := join_left hP (hDD (em Sx) (em Sm)) hk1 hP1
  clear hP1 hk1
  refine lv_aload_n hx hb dL_law_570 rfl (lv_at hl 1 rfl) ?_
  refine lv_aload_n hx hb dL_law_571 rfl (lv_at hl 3 rfl) ?_
  refine lv_iload_n hx hb dL_law_572 rfl (lv_at hl 0 rfl) ?_
  refine lv_iconst (v := 1) hx hb dL_law_573 (by decide) ?_
  refine lv_iadd hx hb dL_law_574 ?_
  refine va_sld hx hb hX hbl hbA hS (hin 1 (by decide)) dL_law_575 ?_
  rw [hu1]
  refine lv_aload_n hx hb dL_law_576 rfl (lv_at hl 3 rfl) ?_
  refine lv_iload_n hx hb dL_law_577 rfl (lv_at hl 0 rfl) ?_
  refine lv_iconst (v := 2) hx hb dL_law_578 (by decide) ?_
  refine lv_iadd hx hb dL_law_579 ?_
  refine va_sld hx hb hX hbl hbA hS (hin 2 (by decide)) dL_law_580 ?_
  rw [hu2]
  refine lw_call (As := [.int (Int32.ofInt u1), .int (Int32.ofInt u2)]) (rest := [.int (Int32.ofInt r)]) ⟨hx, hb, hml, hown, hts⟩ hKm (P_right hP) (D_right (hDD (em Sx1) (em Sm))) hS hA k_X9_edge q_685 blind0 (fun _ _ _ => trivial) (c_X9_edge e2) (WM_0 b h (em Sm)) rfl rfl rfl hl (Nat.le_of_ble_eq_true rfl) dL_law_581 ⟨(Nat.le_of_ble_eq_true rfl), (Nat.le_of_ble_eq_true rfl)⟩ ⟨(Nat.le_of_ble_eq_true rfl), (Nat.le_of_ble_eq_true rfl)⟩ rfl (fun H1 locs1 hk1 hP1 hS => ?_)
  replace hP := join_right hP (hDD (em Sx1) (em Sm)) hk1 hP1
  refine lv_icmp_eq (tgt := 860) hx hb dL_law_584 (by decide) (fun hq => ?_) (fun hq => absurd rfl hq)
  exact K Sx1 Sm1 hrel1 _ _ _ hP hS hl
set_option maxHeartbeats 4000000 in
set_option maxRecDepth 100000 in
theorem law_stretch (hc : LC p s m meth c D a b g h bb L xs) (hst : Step3 Rel f_X8_stretch f_X9_stretch) {x3 : Int32} (hin : ∀ k : Nat, k < 7 → vp_in (x3 + Int32.ofNat k) L) {Sx Sm : SZ} (hrel : Rel Sx Sm) (K : ∀ Sx Sm : SZ, Rel Sx Sm → LGo p l e s m below meth c D a b g h bb Sx Sm 860 [(3, .int x3), (2, .ref (b 0)), (1, .ref (a 0)), (0, .ref bb)] []) : LGo p l e s m below meth c D a b g h bb Sx Sm 589 [(3, .int x3), (2, .ref (b 0)), (1, .ref (a 0)), (0, .ref bb)] [] := by
  obtain ⟨⟨hx, hb, hml, hown, hts⟩, hKx, hKm, hDD, hX, hbl, hEB, hrt, hlocks⟩ := id hc
  have hA : ∀ q : Nat, s.heap.size ≤ q → (fun q : Nat => s.heap.size ≤ q) q := fun _ h => h
  have hbA : ¬ (fun q : Nat => s.heap.size ≤ q) bb := Nat.not_le.mpr hbl
  obtain ⟨u1, hu1, hr1⟩ : ∃ u : Int, xs (x3 + (1 : Int32)).toNatClampNeg = Int32.ofInt u ∧ rng u := ⟨_, (Int32.ofInt_toInt _).symm, Int32.le_toInt _, Int32.toInt_lt _⟩
  obtain ⟨u2, hu2, hr2⟩ : ∃ u : Int, xs (x3 + (2 : Int32)).toNatClampNeg = Int32.ofInt u ∧ rng u := ⟨_, (Int32.ofInt_toInt _).symm, Int32.le_toInt _, Int32.toInt_lt _⟩
  obtain ⟨u3, hu3, hr3⟩ : ∃ u : Int, xs (x3 + (3 : Int32)).toNatClampNeg = Int32.ofInt u ∧ rng u := ⟨_, (Int32.ofInt_toInt _).symm, Int32.le_toInt _, Int32.toInt_lt _⟩
  obtain ⟨Sx1, Sm1, r, e1, e2, hrel1⟩ := hst Sx Sm hrel u1 u2 u3 hr1 hr2 hr3
  intro H locs ls hP hS hl
  refine lv_aload_n hx hb dL_law_589 rfl (lv_at hl 2 rfl) ?_
  refine lv_aload_n hx hb dL_law_590 rfl (lv_at hl 3 rfl) ?_
  refine lv_iload_n hx hb dL_law_591 rfl (lv_at hl 0 rfl) ?_
  refine lv_iconst (v := 1) hx hb dL_law_592 (by decide) ?_
  refine lv_iadd hx hb dL_law_593 ?_
  refine va_sld hx hb hX hbl hbA hS (hin 1 (by decide)) dL_law_594 ?_
  rw [hu1]
  refine lv_aload_n hx hb dL_law_595 rfl (lv_at hl 3 rfl) ?_
  refine lv_iload_n hx hb dL_law_596 rfl (lv_at hl 0 rfl) ?_
  refine lv_iconst (v := 2) hx hb dL_law_597 (by decide) ?_
  refine lv_iadd hx hb dL_law_598 ?_
  refine va_sld hx hb hX hbl hbA hS (hin 2 (by decide)) dL_law_599 ?_
  rw [hu2]
  refine lv_aload_n hx hb dL_law_600 rfl (lv_at hl 3 rfl) ?_
  refine lv_iload_n hx hb dL_law_601 rfl (lv_at hl 0 rfl) ?_
  refine lv_iconst (v := 3) hx hb dL_law_602 (by decide) ?_
  refine lv_iadd hx hb dL_law_603 ?_
  refine va_sld hx hb hX hbl hbA hS (hin 3 (by decide)) dL_law_604 ?_
  rw [hu3]
  refine lw_call (As := [.int (Int32.ofInt u1), .int (Int32.ofInt u2), .int (Int32.ofInt u3)]) (rest := []) ⟨hx, hb, hml, hown, hts⟩ hKx (P_left hP) (D_left (hDD (em Sx) (em Sm))) hS hA k_X8_stretch q_689 blind0 (fun _ _ _ => trivial) (c_X8_stretch e1) (WX_0 a g (em Sx)) rfl rfl rfl hl (Nat.le_of_ble_eq_true rfl) dL_law_605 ⟨(Nat.le_of_ble_eq_true rfl), (Nat.le_of_ble_eq_true rfl)⟩ ⟨(Nat.le_of_ble_eq_true rfl), (Nat.le_of_ble_eq_true rfl)⟩ rfl (fun H1 locs1 hk1 hP1 hS => ?_)
  replace hP := join_left hP (hDD (em Sx) (em Sm)) hk1 hP1
  clear hP1 hk1
  refine lv_aload_n hx hb dL_law_608 rfl (lv_at hl 1 rfl) ?_
  refine lv_aload_n hx hb dL_law_609 rfl (lv_at hl 3 rfl) ?_
  refine lv_iload_n hx hb dL_law_610 rfl (lv_at hl 0 rfl) ?_
  refine lv_iconst (v := 1) hx hb dL_law_611 (by decide) ?_
  refine lv_iadd hx hb dL_law_612 ?_
  refine va_sld hx hb hX hbl hbA hS (hin 1 (by decide)) dL_law_613 ?_
  rw [hu1]
  refine lv_aload_n hx hb dL_law_614 rfl (lv_at hl 3 rfl) ?_
  refine lv_iload_n hx hb dL_law_615 rfl (lv_at hl 0 rfl) ?_
  refine lv_iconst (v := 2) hx hb dL_law_616 (by decide) ?_
  refine lv_iadd hx hb dL_law_617 ?_
  refine va_sld hx hb hX hbl hbA hS (hin 2 (by decide)) dL_law_618 ?_
  rw [hu2]
  refine lv_aload_n hx hb dL_law_619 rfl (lv_at hl 3 rfl) ?_
  refine lv_iload_n hx hb dL_law_620 rfl (lv_at hl 0 rfl) ?_
  refine lv_iconst (v := 3) hx hb dL_law_621 (by decide) ?_
  refine lv_iadd hx hb dL_law_622 ?_
  refine va_sld hx hb hX hbl hbA hS (hin 3 (by decide)) dL_law_623 ?_
  rw [hu3]
  refine lw_call (As := [.int (Int32.ofInt u1), .int (Int32.ofInt u2), .int (Int32.ofInt u3)]) (rest := [.int (Int32.ofInt r)]) ⟨hx, hb, hml, hown, hts⟩ hKm (P_right hP) (D_right (hDD (em Sx1) (em Sm))) hS hA k_X9_stretch q_699 blind0 (fun _ _ _ => trivial) (c_X9_stretch e2) (WM_0 b h (em Sm)) rfl rfl rfl hl (Nat.le_of_ble_eq_true rfl) dL_law_624 ⟨(Nat.le_of_ble_eq_true rfl), (Nat.le_of_ble_eq_true rfl)⟩ ⟨(Nat.le_of_ble_eq_true rfl), (Nat.le_of_ble_eq_true rfl)⟩ rfl (fun H1 locs1 hk1 hP1 hS => ?_)
  replace hP := join_right hP (hDD (em Sx1) (em Sm)) hk1 hP1
  refine lv_icmp_eq (tgt := 860) hx hb dL_law_627 (by decide) (fun hq => ?_) (fun hq => absurd rfl hq)
  exact K Sx1 Sm1 hrel1 _ _ _ hP hS hl
set_option maxHeartbeats 4000000 in
set_option maxRecDepth 100000 in
theorem law_hidden (hc : LC p s m meth c D a b g h bb L xs) (hst : Step3 Rel f_X8_hidden f_X9_hidden) {x3 : Int32} (hin : ∀ k : Nat, k < 7 → vp_in (x3 + Int32.ofNat k) L) {Sx Sm : SZ} (hrel : Rel Sx Sm) (K : ∀ Sx Sm : SZ, Rel Sx Sm → LGo p l e s m below meth c D a b g h bb Sx Sm 860 [(3, .int x3), (2, .ref (b 0)), (1, .ref (a 0)), (0, .ref bb)] []) : LGo p l e s m below meth c D a b g h bb Sx Sm 632 [(3, .int x3), (2, .ref (b 0)), (1, .ref (a 0)), (0, .ref bb)] [] := by
  obtain ⟨⟨hx, hb, hml, hown, hts⟩, hKx, hKm, hDD, hX, hbl, hEB, hrt, hlocks⟩ := id hc
  have hA : ∀ q : Nat, s.heap.size ≤ q → (fun q : Nat => s.heap.size ≤ q) q := fun _ h => h
  have hbA : ¬ (fun q : Nat => s.heap.size ≤ q) bb := Nat.not_le.mpr hbl
  obtain ⟨u1, hu1, hr1⟩ : ∃ u : Int, xs (x3 + (1 : Int32)).toNatClampNeg = Int32.ofInt u ∧ rng u := ⟨_, (Int32.ofInt_toInt _).symm, Int32.le_toInt _, Int32.toInt_lt _⟩
  obtain ⟨u2, hu2, hr2⟩ : ∃ u : Int, xs (x3 + (2 : Int32)).toNatClampNeg = Int32.ofInt u ∧ rng u := ⟨_, (Int32.ofInt_toInt _).symm, Int32.le_toInt _, Int32.toInt_lt _⟩
  obtain ⟨u3, hu3, hr3⟩ : ∃ u : Int, xs (x3 + (3 : Int32)).toNatClampNeg = Int32.ofInt u ∧ rng u := ⟨_, (Int32.ofInt_toInt _).symm, Int32.le_toInt _, Int32.toInt_lt _⟩
  obtain ⟨Sx1, Sm1, r, e1, e2, hrel1⟩ := hst Sx Sm hrel u1 u2 u3 hr1 hr2 hr3
  intro H locs ls hP hS hl
  refine lv_aload_n hx hb dL_law_632 rfl (lv_at hl 2 rfl) ?_
  refine lv_aload_n hx hb dL_law_633 rfl (lv_at hl 3 rfl) ?_
  refine lv_iload_n hx hb dL_law_634 rfl (lv_at hl 0 rfl) ?_
  refine lv_iconst (v := 1) hx hb dL_law_635 (by decide) ?_
  refine lv_iadd hx hb dL_law_636 ?_
  refine va_sld hx hb hX hbl hbA hS (hin 1 (by decide)) dL_law_637 ?_
  rw [hu1]
  refine lv_aload_n hx hb dL_law_638 rfl (lv_at hl 3 rfl) ?_
  refine lv_iload_n hx hb dL_law_639 rfl (lv_at hl 0 rfl) ?_
  refine lv_iconst (v := 2) hx hb dL_law_640 (by decide) ?_
  refine lv_iadd hx hb dL_law_641 ?_
  refine va_sld hx hb hX hbl hbA hS (hin 2 (by decide)) dL_law_642 ?_
  rw [hu2]
  refine lv_aload_n hx hb dL_law_643 rfl (lv_at hl 3 rfl) ?_
  refine lv_iload_n hx hb dL_law_644 rfl (lv_at hl 0 rfl) ?_
  refine lv_iconst (v := 3) hx hb dL_law_645 (by decide) ?_
  refine lv_iadd hx hb dL_law_646 ?_
  refine va_sld hx hb hX hbl hbA hS (hin 3 (by decide)) dL_law_647 ?_
  rw [hu3]
  refine lw_call (As := [.int (Int32.ofInt u1), .int (Int32.ofInt u2), .int (Int32.ofInt u3)]) (rest := []) ⟨hx, hb, hml, hown, hts⟩ hKx (P_left hP) (D_left (hDD (em Sx) (em Sm))) hS hA k_X8_hidden q_706 blind0 (fun _ _ _ => trivial) (c_X8_hidden e1) (WX_0 a g (em Sx)) rfl rfl rfl hl (Nat.le_of_ble_eq_true rfl) dL_law_648 ⟨(Nat.le_of_ble_eq_true rfl), (Nat.le_of_ble_eq_true rfl)⟩ ⟨(Nat.le_of_ble_eq_true rfl), (Nat.le_of_ble_eq_true rfl)⟩ rfl (fun H1 locs1 hk1 hP1 hS => ?_)
  replace hP := join_left hP (hDD (em Sx) (em Sm)) hk1 hP1
  clear hP1 hk1
  refine lv_aload_n hx hb dL_law_651 rfl (lv_at hl 1 rfl) ?_
  refine lv_aload_n hx hb dL_law_652 rfl (lv_at hl 3 rfl) ?_
  refine lv_iload_n hx hb dL_law_653 rfl (lv_at hl 0 rfl) ?_
  refine lv_iconst (v := 1) hx hb dL_law_654 (by decide) ?_
  refine lv_iadd hx hb dL_law_655 ?_
  refine va_sld hx hb hX hbl hbA hS (hin 1 (by decide)) dL_law_656 ?_
  rw [hu1]
  refine lv_aload_n hx hb dL_law_657 rfl (lv_at hl 3 rfl) ?_
  refine lv_iload_n hx hb dL_law_658 rfl (lv_at hl 0 rfl) ?_
  refine lv_iconst (v := 2) hx hb dL_law_659 (by decide) ?_
  refine lv_iadd hx hb dL_law_660 ?_
  refine va_sld hx hb hX hbl hbA hS (hin 2 (by decide)) dL_law_661 ?_
  rw [hu2]
  refine lv_aload_n hx hb dL_law_662 rfl (lv_at hl 3 rfl) ?_
  refine lv_iload_n hx hb dL_law_663 rfl (lv_at hl 0 rfl) ?_
  refine lv_iconst (v := 3) hx hb dL_law_664 (by decide) ?_
  refine lv_iadd hx hb dL_law_665 ?_
  refine va_sld hx hb hX hbl hbA hS (hin 3 (by decide)) dL_law_666 ?_
  rw [hu3]
  refine lw_call (As := [.int (Int32.ofInt u1), .int (Int32.ofInt u2), .int (Int32.ofInt u3)]) (rest := [.int (Int32.ofInt r)]) ⟨hx, hb, hml, hown, hts⟩ hKm (P_right hP) (D_right (hDD (em Sx1) (em Sm))) hS hA k_X9_hidden q_710 blind0 (fun _ _ _ => trivial) (c_X9_hidden e2) (WM_0 b h (em Sm)) rfl rfl rfl hl (Nat.le_of_ble_eq_true rfl) dL_law_667 ⟨(Nat.le_of_ble_eq_true rfl), (Nat.le_of_ble_eq_true rfl)⟩ ⟨(Nat.le_of_ble_eq_true rfl), (Nat.le_of_ble_eq_true rfl)⟩ rfl (fun H1 locs1 hk1 hP1 hS => ?_)
  replace hP := join_right hP (hDD (em Sx1) (em Sm)) hk1 hP1
  refine lv_icmp_eq (tgt := 860) hx hb dL_law_670 (by decide) (fun hq => ?_) (fun hq => absurd rfl hq)
  exact K Sx1 Sm1 hrel1 _ _ _ hP hS hl
set_option maxHeartbeats 4000000 in
set_option maxRecDepth 100000 in
theorem law_piece (hc : LC p s m meth c D a b g h bb L xs) (hst : Step3 Rel f_X8_piece f_X9_piece) {x3 : Int32} (hin : ∀ k : Nat, k < 7 → vp_in (x3 + Int32.ofNat k) L) {Sx Sm : SZ} (hrel : Rel Sx Sm) (K : ∀ Sx Sm : SZ, Rel Sx Sm → LGo p l e s m below meth c D a b g h bb Sx Sm 860 [(3, .int x3), (2, .ref (b 0)), (1, .ref (a 0)), (0, .ref bb)] []) : LGo p l e s m below meth c D a b g h bb Sx Sm 675 [(3, .int x3), (2, .ref (b 0)), (1, .ref (a 0)), (0, .ref bb)] [] := by
  obtain ⟨⟨hx, hb, hml, hown, hts⟩, hKx, hKm, hDD, hX, hbl, hEB, hrt, hlocks⟩ := id hc
  have hA : ∀ q : Nat, s.heap.size ≤ q → (fun q : Nat => s.heap.size ≤ q) q := fun _ h => h
  have hbA : ¬ (fun q : Nat => s.heap.size ≤ q) bb := Nat.not_le.mpr hbl
  obtain ⟨u1, hu1, hr1⟩ : ∃ u : Int, xs (x3 + (1 : Int32)).toNatClampNeg = Int32.ofInt u ∧ rng u := ⟨_, (Int32.ofInt_toInt _).symm, Int32.le_toInt _, Int32.toInt_lt _⟩
  obtain ⟨u2, hu2, hr2⟩ : ∃ u : Int, xs (x3 + (2 : Int32)).toNatClampNeg = Int32.ofInt u ∧ rng u := ⟨_, (Int32.ofInt_toInt _).symm, Int32.le_toInt _, Int32.toInt_lt _⟩
  obtain ⟨u3, hu3, hr3⟩ : ∃ u : Int, xs (x3 + (3 : Int32)).toNatClampNeg = Int32.ofInt u ∧ rng u := ⟨_, (Int32.ofInt_toInt _).symm, Int32.le_toInt _, Int32.toInt_lt _⟩
  obtain ⟨Sx1, Sm1, r, e1, e2, hrel1⟩ := hst Sx Sm hrel u1 u2 u3 hr1 hr2 hr3
  intro H locs ls hP hS hl
  refine lv_aload_n hx hb dL_law_675 rfl (lv_at hl 2 rfl) ?_
  refine lv_aload_n hx hb dL_law_676 rfl (lv_at hl 3 rfl) ?_
  refine lv_iload_n hx hb dL_law_677 rfl (lv_at hl 0 rfl) ?_
  refine lv_iconst (v := 1) hx hb dL_law_678 (by decide) ?_
  refine lv_iadd hx hb dL_law_679 ?_
  refine va_sld hx hb hX hbl hbA hS (hin 1 (by decide)) dL_law_680 ?_
  rw [hu1]
  refine lv_aload_n hx hb dL_law_681 rfl (lv_at hl 3 rfl) ?_
  refine lv_iload_n hx hb dL_law_682 rfl (lv_at hl 0 rfl) ?_
  refine lv_iconst (v := 2) hx hb dL_law_683 (by decide) ?_
  refine lv_iadd hx hb dL_law_684 ?_
  refine va_sld hx hb hX hbl hbA hS (hin 2 (by decide)) dL_law_685 ?_
  rw [hu2]
  refine lv_aload_n hx hb dL_law_686 rfl (lv_at hl 3 rfl) ?_
  refine lv_iload_n hx hb dL_law_687 rfl (lv_at hl 0 rfl) ?_
  refine lv_iconst (v := 3) hx hb dL_law_688 (by decide) ?_
  refine lv_iadd hx hb dL_law_689 ?_
  refine va_sld hx hb hX hbl hbA hS (hin 3 (by decide)) dL_law_690 ?_
  rw [hu3]
  refine lw_call (As := [.int (Int32.ofInt u1), .int (Int32.ofInt u2), .int (Int32.ofInt u3)]) (rest := []) ⟨hx, hb, hml, hown, hts⟩ hKx (P_left hP) (D_left (hDD (em Sx) (em Sm))) hS hA k_X8_piece q_718 blind0 (fun _ _ _ => trivial) (c_X8_piece e1) (WX_0 a g (em Sx)) rfl rfl rfl hl (Nat.le_of_ble_eq_true rfl) dL_law_691 ⟨(Nat.le_of_ble_eq_true rfl), (Nat.le_of_ble_eq_true rfl)⟩ ⟨(Nat.le_of_ble_eq_true rfl), (Nat.le_of_ble_eq_true rfl)⟩ rfl (fun H1 locs1 hk1 hP1 hS => ?_)
  replace hP := join_left hP (hDD (em Sx) (em Sm)) hk1 hP1
  clear hP1 hk1
  refine lv_aload_n hx hb dL_law_694 rfl (lv_at hl 1 rfl) ?_
  refine lv_aload_n hx hb dL_law_695 rfl (lv_at hl 3 rfl) ?_
  refine lv_iload_n hx hb dL_law_696 rfl (lv_at hl 0 rfl) ?_
  refine lv_iconst (v := 1) hx hb dL_law_697 (by decide) ?_
  refine lv_iadd hx hb dL_law_698 ?_
  refine va_sld hx hb hX hbl hbA hS (hin 1 (by decide)) dL_law_699 ?_
  rw [hu1]
  refine lv_aload_n hx hb dL_law_700 rfl (lv_at hl 3 rfl) ?_
  refine lv_iload_n hx hb dL_law_701 rfl (lv_at hl 0 rfl) ?_
  refine lv_iconst (v := 2) hx hb dL_law_702 (by decide) ?_
  refine lv_iadd hx hb dL_law_703 ?_
  refine va_sld hx hb hX hbl hbA hS (hin 2 (by decide)) dL_law_704 ?_
  rw [hu2]
  refine lv_aload_n hx hb dL_law_705 rfl (lv_at hl 3 rfl) ?_
  refine lv_iload_n hx hb dL_law_706 rfl (lv_at hl 0 rfl) ?_
  refine lv_iconst (v := 3) hx hb dL_law_707 (by decide) ?_
  refine lv_iadd hx hb dL_law_708 ?_
  refine va_sld hx hb hX hbl hbA hS (hin 3 (by decide)) dL_law_709 ?_
  rw [hu3]
  refine lw_call (As := [.int (Int32.ofInt u1), .int (Int32.ofInt u2), .int (Int32.ofInt u3)]) (rest := [.int (Int32.ofInt r)]) ⟨hx, hb, hml, hown, hts⟩ hKm (P_right hP) (D_right (hDD (em Sx1) (em Sm))) hS hA k_X9_piece q_724 blind0 (fun _ _ _ => trivial) (c_X9_piece e2) (WM_0 b h (em Sm)) rfl rfl rfl hl (Nat.le_of_ble_eq_true rfl) dL_law_710 ⟨(Nat.le_of_ble_eq_true rfl), (Nat.le_of_ble_eq_true rfl)⟩ ⟨(Nat.le_of_ble_eq_true rfl), (Nat.le_of_ble_eq_true rfl)⟩ rfl (fun H1 locs1 hk1 hP1 hS => ?_)
  replace hP := join_right hP (hDD (em Sx1) (em Sm)) hk1 hP1
  refine lv_icmp_eq (tgt := 860) hx hb dL_law_713 (by decide) (fun hq => ?_) (fun hq => absurd rfl hq)
  exact K Sx1 Sm1 hrel1 _ _ _ hP hS hl
set_option maxHeartbeats 4000000 in
set_option maxRecDepth 100000 in
theorem law_crossing (hc : LC p s m meth c D a b g h bb L xs) (hst : Step3 Rel f_X8_crossing f_X9_crossing) {x3 : Int32} (hin : ∀ k : Nat, k < 7 → vp_in (x3 + Int32.ofNat k) L) {Sx Sm : SZ} (hrel : Rel Sx Sm) (K : ∀ Sx Sm : SZ, Rel Sx Sm → LGo p l e s m below meth c D a b g h bb Sx Sm 860 [(3, .int x3), (2, .ref (b 0)), (1, .ref (a 0)), (0, .ref bb)] []) : LGo p l e s m below meth c D a b g h bb Sx Sm 718 [(3, .int x3), (2, .ref (b 0)), (1, .ref (a 0)), (0, .ref bb)] [] := by
  obtain ⟨⟨hx, hb, hml, hown, hts⟩, hKx, hKm, hDD, hX, hbl, hEB, hrt, hlocks⟩ := id hc
  have hA : ∀ q : Nat, s.heap.size ≤ q → (fun q : Nat => s.heap.size ≤ q) q := fun _ h => h
  have hbA : ¬ (fun q : Nat => s.heap.size ≤ q) bb := Nat.not_le.mpr hbl
  obtain ⟨u1, hu1, hr1⟩ : ∃ u : Int, xs (x3 + (1 : Int32)).toNatClampNeg = Int32.ofInt u ∧ rng u := ⟨_, (Int32.ofInt_toInt _).symm, Int32.le_toInt _, Int32.toInt_lt _⟩
  obtain ⟨u2, hu2, hr2⟩ : ∃ u : Int, xs (x3 + (2 : Int32)).toNatClampNeg = Int32.ofInt u ∧ rng u := ⟨_, (Int32.ofInt_toInt _).symm, Int32.le_toInt _, Int32.toInt_lt _⟩
  obtain ⟨u3, hu3, hr3⟩ : ∃ u : Int, xs (x3 + (3 : Int32)).toNatClampNeg = Int32.ofInt u ∧ rng u := ⟨_, (Int32.ofInt_toInt _).symm, Int32.le_toInt _, Int32.toInt_lt _⟩
  obtain ⟨Sx1, Sm1, r, e1, e2, hrel1⟩ := hst Sx Sm hrel u1 u2 u3 hr1 hr2 hr3
  intro H locs ls hP hS hl
  refine lv_aload_n hx hb dL_law_718 rfl (lv_at hl 2 rfl) ?_
  refine lv_aload_n hx hb dL_law_719 rfl (lv_at hl 3 rfl) ?_
  refine lv_iload_n hx hb dL_law_720 rfl (lv_at hl 0 rfl) ?_
  refine lv_iconst (v := 1) hx hb dL_law_721 (by decide) ?_
  refine lv_iadd hx hb dL_law_722 ?_
  refine va_sld hx hb hX hbl hbA hS (hin 1 (by decide)) dL_law_723 ?_
  rw [hu1]
  refine lv_aload_n hx hb dL_law_724 rfl (lv_at hl 3 rfl) ?_
  refine lv_iload_n hx hb dL_law_725 rfl (lv_at hl 0 rfl) ?_
  refine lv_iconst (v := 2) hx hb dL_law_726 (by decide) ?_
  refine lv_iadd hx hb dL_law_727 ?_
  refine va_sld hx hb hX hbl hbA hS (hin 2 (by decide)) dL_law_728 ?_
  rw [hu2]
  refine lv_aload_n hx hb dL_law_729 rfl (lv_at hl 3 rfl) ?_
  refine lv_iload_n hx hb dL_law_730 rfl (lv_at hl 0 rfl) ?_
  refine lv_iconst (v := 3) hx hb dL_law_731 (by decide) ?_
  refine lv_iadd hx hb dL_law_732 ?_
  refine va_sld hx hb hX hbl hbA hS (hin 3 (by decide)) dL_law_733 ?_
  rw [hu3]
  refine lw_call (As := [.int (Int32.ofInt u1), .int (Int32.ofInt u2), .int (Int32.ofInt u3)]) (rest := []) ⟨hx, hb, hml, hown, hts⟩ hKx (P_left hP) (D_left (hDD (em Sx) (em Sm))) hS hA k_X8_crossing q_728 blind0 (fun _ _ _ => trivial) (c_X8_crossing e1) (WX_0 a g (em Sx)) rfl rfl rfl hl (Nat.le_of_ble_eq_true rfl) dL_law_734 ⟨(Nat.le_of_ble_eq_true rfl), (Nat.le_of_ble_eq_true rfl)⟩ ⟨(Nat.le_of_ble_eq_true rfl), (Nat.le_of_ble_eq_true rfl)⟩ rfl (fun H1 locs1 hk1 hP1 hS => ?_)
  replace hP := join_left hP (hDD (em Sx) (em Sm)) hk1 hP1
  clear hP1 hk1
  refine lv_aload_n hx hb dL_law_737 rfl (lv_at hl 1 rfl) ?_
  refine lv_aload_n hx hb dL_law_738 rfl (lv_at hl 3 rfl) ?_
  refine lv_iload_n hx hb dL_law_739 rfl (lv_at hl 0 rfl) ?_
  refine lv_iconst (v := 1) hx hb dL_law_740 (by decide) ?_
  refine lv_iadd hx hb dL_law_741 ?_
  refine va_sld hx hb hX hbl hbA hS (hin 1 (by decide)) dL_law_742 ?_
  rw [hu1]
  refine lv_aload_n hx hb dL_law_743 rfl (lv_at hl 3 rfl) ?_
  refine lv_iload_n hx hb dL_law_744 rfl (lv_at hl 0 rfl) ?_
  refine lv_iconst (v := 2) hx hb dL_law_745 (by decide) ?_
  refine lv_iadd hx hb dL_law_746 ?_
  refine va_sld hx hb hX hbl hbA hS (hin 2 (by decide)) dL_law_747 ?_
  rw [hu2]
  refine lv_aload_n hx hb dL_law_748 rfl (lv_at hl 3 rfl) ?_
  refine lv_iload_n hx hb dL_law_749 rfl (lv_at hl 0 rfl) ?_
  refine lv_iconst (v := 3) hx hb dL_law_750 (by decide) ?_
  refine lv_iadd hx hb dL_law_751 ?_
  refine va_sld hx hb hX hbl hbA hS (hin 3 (by decide)) dL_law_752 ?_
  rw [hu3]
  refine lw_call (As := [.int (Int32.ofInt u1), .int (Int32.ofInt u2), .int (Int32.ofInt u3)]) (rest := [.int (Int32.ofInt r)]) ⟨hx, hb, hml, hown, hts⟩ hKm (P_right hP) (D_right (hDD (em Sx1) (em Sm))) hS hA k_X9_crossing q_754 blind0 (fun _ _ _ => trivial) (c_X9_crossing e2) (WM_0 b h (em Sm)) rfl rfl rfl hl (Nat.le_of_ble_eq_true rfl) dL_law_753 ⟨(Nat.le_of_ble_eq_true rfl), (Nat.le_of_ble_eq_true rfl)⟩ ⟨(Nat.le_of_ble_eq_true rfl), (Nat.le_of_ble_eq_true rfl)⟩ rfl (fun H1 locs1 hk1 hP1 hS => ?_)
  replace hP := join_right hP (hDD (em Sx1) (em Sm)) hk1 hP1
  refine lv_icmp_eq (tgt := 860) hx hb dL_law_756 (by decide) (fun hq => ?_) (fun hq => absurd rfl hq)
  exact K Sx1 Sm1 hrel1 _ _ _ hP hS hl
set_option maxHeartbeats 4000000 in
set_option maxRecDepth 100000 in
theorem law_stroke (hc : LC p s m meth c D a b g h bb L xs) (hst : Step2 Rel f_X8_stroke f_X9_stroke) {x3 : Int32} (hin : ∀ k : Nat, k < 7 → vp_in (x3 + Int32.ofNat k) L) {Sx Sm : SZ} (hrel : Rel Sx Sm) (K : ∀ Sx Sm : SZ, Rel Sx Sm → LGo p l e s m below meth c D a b g h bb Sx Sm 860 [(3, .int x3), (2, .ref (b 0)), (1, .ref (a 0)), (0, .ref bb)] []) : LGo p l e s m below meth c D a b g h bb Sx Sm 761 [(3, .int x3), (2, .ref (b 0)), (1, .ref (a 0)), (0, .ref bb)] [] := by
  obtain ⟨⟨hx, hb, hml, hown, hts⟩, hKx, hKm, hDD, hX, hbl, hEB, hrt, hlocks⟩ := id hc
  have hA : ∀ q : Nat, s.heap.size ≤ q → (fun q : Nat => s.heap.size ≤ q) q := fun _ h => h
  have hbA : ¬ (fun q : Nat => s.heap.size ≤ q) bb := Nat.not_le.mpr hbl
  obtain ⟨u1, hu1, hr1⟩ : ∃ u : Int, xs (x3 + (1 : Int32)).toNatClampNeg = Int32.ofInt u ∧ rng u := ⟨_, (Int32.ofInt_toInt _).symm, Int32.le_toInt _, Int32.toInt_lt _⟩
  obtain ⟨u2, hu2, hr2⟩ : ∃ u : Int, xs (x3 + (2 : Int32)).toNatClampNeg = Int32.ofInt u ∧ rng u := ⟨_, (Int32.ofInt_toInt _).symm, Int32.le_toInt _, Int32.toInt_lt _⟩
  obtain ⟨Sx1, Sm1, r, e1, e2, hrel1⟩ := hst Sx Sm hrel u1 u2 hr1 hr2
  intro H locs ls hP hS hl
  refine lv_aload_n hx hb dL_law_761 rfl (lv_at hl 2 rfl) ?_
  refine lv_aload_n hx hb dL_law_762 rfl (lv_at hl 3 rfl) ?_
  refine lv_iload_n hx hb dL_law_763 rfl (lv_at hl 0 rfl) ?_
  refine lv_iconst (v := 1) hx hb dL_law_764 (by decide) ?_
  refine lv_iadd hx hb dL_law_765 ?_
  refine va_sld hx hb hX hbl hbA hS (hin 1 (by decide)) dL_law_766 ?_
  rw [hu1]
  refine lv_aload_n hx hb dL_law_767 rfl (lv_at hl 3 rfl) ?_
  refine lv_iload_n hx hb dL_law_768 rfl (lv_at hl 0 rfl) ?_
  refine lv_iconst (v := 2) hx hb dL_law_769 (by decide) ?_
  refine lv_iadd hx hb dL_law_770 ?_
  refine va_sld hx hb hX hbl hbA hS (hin 2 (by decide)) dL_law_771 ?_
  rw [hu2]
  refine lw_call (As := [.int (Int32.ofInt u1), .int (Int32.ofInt u2)]) (rest := []) ⟨hx, hb, hml, hown, hts⟩ hKx (P_left hP) (D_left (hDD (em Sx) (em Sm))) hS hA k_X8_stroke q_766 blind0 (fun _ _ _ => trivial) (c_X8_stroke e1) (WX_0 a g (em Sx)) rfl rfl rfl hl (Nat.le_of_ble_eq_true rfl) dL_law_772 ⟨(Nat.le_of_ble_eq_true rfl), (Nat.le_of_ble_eq_true rfl)⟩ ⟨(Nat.le_of_ble_eq_true rfl), (Nat.le_of_ble_eq_true rfl)⟩ rfl (fun H1 locs1 hk1 hP1 hS => ?_)
  replace hP := join_left hP (hDD (em Sx) (em Sm)) hk1 hP1
  clear hP1 hk1
  refine lv_aload_n hx hb dL_law_775 rfl (lv_at hl 1 rfl) ?_
  refine lv_aload_n hx hb dL_law_776 rfl (lv_at hl 3 rfl) ?_
  refine lv_iload_n hx hb dL_law_777 rfl (lv_at hl 0 rfl) ?_
  refine lv_iconst (v := 1) hx hb dL_law_778 (by decide) ?_
  refine lv_iadd hx hb dL_law_779 ?_
  refine va_sld hx hb hX hbl hbA hS (hin 1 (by decide)) dL_law_780 ?_
  rw [hu1]
  refine lv_aload_n hx hb dL_law_781 rfl (lv_at hl 3 rfl) ?_
  refine lv_iload_n hx hb dL_law_782 rfl (lv_at hl 0 rfl) ?_
  refine lv_iconst (v := 2) hx hb dL_law_783 (by decide) ?_
  refine lv_iadd hx hb dL_law_784 ?_
  refine va_sld hx hb hX hbl hbA hS (hin 2 (by decide)) dL_law_785 ?_
  rw [hu2]
  refine lw_call (As := [.int (Int32.ofInt u1), .int (Int32.ofInt u2)]) (rest := [.int (Int32.ofInt r)]) ⟨hx, hb, hml, hown, hts⟩ hKm (P_right hP) (D_right (hDD (em Sx1) (em Sm))) hS hA k_X9_stroke q_787 blind0 (fun _ _ _ => trivial) (c_X9_stroke e2) (WM_0 b h (em Sm)) rfl rfl rfl hl (Nat.le_of_ble_eq_true rfl) dL_law_786 ⟨(Nat.le_of_ble_eq_true rfl), (Nat.le_of_ble_eq_true rfl)⟩ ⟨(Nat.le_of_ble_eq_true rfl), (Nat.le_of_ble_eq_true rfl)⟩ rfl (fun H1 locs1 hk1 hP1 hS => ?_)
  replace hP := join_right hP (hDD (em Sx1) (em Sm)) hk1 hP1
  refine lv_icmp_eq (tgt := 860) hx hb dL_law_789 (by decide) (fun hq => ?_) (fun hq => absurd rfl hq)
  exact K Sx1 Sm1 hrel1 _ _ _ hP hS hl
set_option maxHeartbeats 4000000 in
set_option maxRecDepth 100000 in
theorem law_strokePiece (hc : LC p s m meth c D a b g h bb L xs) (hst : Step3 Rel f_X8_strokePiece f_X9_strokePiece) {x3 : Int32} (hin : ∀ k : Nat, k < 7 → vp_in (x3 + Int32.ofNat k) L) {Sx Sm : SZ} (hrel : Rel Sx Sm) (K : ∀ Sx Sm : SZ, Rel Sx Sm → LGo p l e s m below meth c D a b g h bb Sx Sm 860 [(3, .int x3), (2, .ref (b 0)), (1, .ref (a 0)), (0, .ref bb)] []) : LGo p l e s m below meth c D a b g h bb Sx Sm 794 [(3, .int x3), (2, .ref (b 0)), (1, .ref (a 0)), (0, .ref bb)] [] := by
  obtain ⟨⟨hx, hb, hml, hown, hts⟩, hKx, hKm, hDD, hX, hbl, hEB, hrt, hlocks⟩ := id hc
  have hA : ∀ q : Nat, s.heap.size ≤ q → (fun q : Nat => s.heap.size ≤ q) q := fun _ h => h
  have hbA : ¬ (fun q : Nat => s.heap.size ≤ q) bb := Nat.not_le.mpr hbl
  obtain ⟨u1, hu1, hr1⟩ : ∃ u : Int, xs (x3 + (1 : Int32)).toNatClampNeg = Int32.ofInt u ∧ rng u := ⟨_, (Int32.ofInt_toInt _).symm, Int32.le_toInt _, Int32.toInt_lt _⟩
  obtain ⟨u2, hu2, hr2⟩ : ∃ u : Int, xs (x3 + (2 : Int32)).toNatClampNeg = Int32.ofInt u ∧ rng u := ⟨_, (Int32.ofInt_toInt _).symm, Int32.le_toInt _, Int32.toInt_lt _⟩
  obtain ⟨u3, hu3, hr3⟩ : ∃ u : Int, xs (x3 + (3 : Int32)).toNatClampNeg = Int32.ofInt u ∧ rng u := ⟨_, (Int32.ofInt_toInt _).symm, Int32.le_toInt _, Int32.toInt_lt _⟩
  obtain ⟨Sx1, Sm1, r, e1, e2, hrel1⟩ := hst Sx Sm hrel u1 u2 u3 hr1 hr2 hr3
  intro H locs ls hP hS hl
  refine lv_aload_n hx hb dL_law_794 rfl (lv_at hl 2 rfl) ?_
  refine lv_aload_n hx hb dL_law_795 rfl (lv_at hl 3 rfl) ?_
  refine lv_iload_n hx hb dL_law_796 rfl (lv_at hl 0 rfl) ?_
  refine lv_iconst (v := 1) hx hb dL_law_797 (by decide) ?_
  refine lv_iadd hx hb dL_law_798 ?_
  refine va_sld hx hb hX hbl hbA hS (hin 1 (by decide)) dL_law_799 ?_
  rw [hu1]
  refine lv_aload_n hx hb dL_law_800 rfl (lv_at hl 3 rfl) ?_
  refine lv_iload_n hx hb dL_law_801 rfl (lv_at hl 0 rfl) ?_
  refine lv_iconst (v := 2) hx hb dL_law_802 (by decide) ?_
  refine lv_iadd hx hb dL_law_803 ?_
  refine va_sld hx hb hX hbl hbA hS (hin 2 (by decide)) dL_law_804 ?_
  rw [hu2]
  refine lv_aload_n hx hb dL_law_805 rfl (lv_at hl 3 rfl) ?_
  refine lv_iload_n hx hb dL_law_806 rfl (lv_at hl 0 rfl) ?_
  refine lv_iconst (v := 3) hx hb dL_law_807 (by decide) ?_
  refine lv_iadd hx hb dL_law_808 ?_
  refine va_sld hx hb hX hbl hbA hS (hin 3 (by decide)) dL_law_809 ?_
  rw [hu3]
  refine lw_call (As := [.int (Int32.ofInt u1), .int (Int32.ofInt u2), .int (Int32.ofInt u3)]) (rest := []) ⟨hx, hb, hml, hown, hts⟩ hKx (P_left hP) (D_left (hDD (em Sx) (em Sm))) hS hA k_X8_strokePiece q_795 blind0 (fun _ _ _ => trivial) (c_X8_strokePiece e1) (WX_0 a g (em Sx)) rfl rfl rfl hl (Nat.le_of_ble_eq_true rfl) dL_law_810 ⟨(Nat.le_of_ble_eq_true rfl), (Nat.le_of_ble_eq_true rfl)⟩ ⟨(Nat.le_of_ble_eq_true rfl), (Nat.le_of_ble_eq_true rfl)⟩ rfl (fun H1 locs1 hk1 hP1 hS => ?_)
  replace hP := join_left hP (hDD (em Sx) (em Sm)) hk1 hP1
  clear hP1 hk1
  refine lv_aload_n hx hb dL_law_813 rfl (lv_at hl 1 rfl) ?_
  refine lv_aload_n hx hb dL_law_814 rfl (lv_at hl 3 rfl) ?_
  refine lv_iload_n hx hb dL_law_815 rfl (lv_at hl 0 rfl) ?_
  refine lv_iconst (v := 1) hx hb dL_law_816 (by decide) ?_
  refine lv_iadd hx hb dL_law_817 ?_
  refine va_sld hx hb hX hbl hbA hS (hin 1 (by decide)) dL_law_818 ?_
  rw [hu1]
  refine lv_aload_n hx hb dL_law_819 rfl (lv_at hl 3 rfl) ?_
  refine lv_iload_n hx hb dL_law_820 rfl (lv_at hl 0 rfl) ?_
  refine lv_iconst (v := 2) hx hb dL_law_821 (by decide) ?_
  refine lv_iadd hx hb dL_law_822 ?_
  refine va_sld hx hb hX hbl hbA hS (hin 2 (by decide)) dL_law_823 ?_
  rw [hu2]
  refine lv_aload_n hx hb dL_law_824 rfl (lv_at hl 3 rfl) ?_
  refine lv_iload_n hx hb dL_law_825 rfl (lv_at hl 0 rfl) ?_
  refine lv_iconst (v := 3) hx hb dL_law_826 (by decide) ?_
  refine lv_iadd hx hb dL_law_827 ?_
  refine va_sld hx hb hX hbl hbA hS (hin 3 (by decide)) dL_law_828 ?_
  rw [hu3]
  refine lw_call (As := [.int (Int32.ofInt u1), .int (Int32.ofInt u2), .int (Int32.ofInt u3)]) (rest := [.int (Int32.ofInt r)]) ⟨hx, hb, hml, hown, hts⟩ hKm (P_right hP) (D_right (hDD (em Sx1) (em Sm))) hS hA k_X9_strokePiece q_804 blind0 (fun _ _ _ => trivial) (c_X9_strokePiece e2) (WM_0 b h (em Sm)) rfl rfl rfl hl (Nat.le_of_ble_eq_true rfl) dL_law_829 ⟨(Nat.le_of_ble_eq_true rfl), (Nat.le_of_ble_eq_true rfl)⟩ ⟨(Nat.le_of_ble_eq_true rfl), (Nat.le_of_ble_eq_true rfl)⟩ rfl (fun H1 locs1 hk1 hP1 hS => ?_)
  replace hP := join_right hP (hDD (em Sx1) (em Sm)) hk1 hP1
  refine lv_icmp_eq (tgt := 860) hx hb dL_law_832 (by decide) (fun hq => ?_) (fun hq => absurd rfl hq)
  exact K Sx1 Sm1 hrel1 _ _ _ hP hS hl
set_option maxHeartbeats 4000000 in
set_option maxRecDepth 100000 in
theorem law_many (hc : LC p s m meth c D a b g h bb L xs) (hst : Step1 Rel f_X8_many f_X9_many) {x3 : Int32} (hin : ∀ k : Nat, k < 7 → vp_in (x3 + Int32.ofNat k) L) {Sx Sm : SZ} (hrel : Rel Sx Sm) (K : ∀ Sx Sm : SZ, Rel Sx Sm → LGo p l e s m below meth c D a b g h bb Sx Sm 860 [(3, .int x3), (2, .ref (b 0)), (1, .ref (a 0)), (0, .ref bb)] []) : LGo p l e s m below meth c D a b g h bb Sx Sm 837 [(3, .int x3), (2, .ref (b 0)), (1, .ref (a 0)), (0, .ref bb)] [] := by
  obtain ⟨⟨hx, hb, hml, hown, hts⟩, hKx, hKm, hDD, hX, hbl, hEB, hrt, hlocks⟩ := id hc
  have hA : ∀ q : Nat, s.heap.size ≤ q → (fun q : Nat => s.heap.size ≤ q) q := fun _ h => h
  have hbA : ¬ (fun q : Nat => s.heap.size ≤ q) bb := Nat.not_le.mpr hbl
  obtain ⟨u1, hu1, hr1⟩ : ∃ u : Int, xs (x3 + (1 : Int32)).toNatClampNeg = Int32.ofInt u ∧ rng u := ⟨_, (Int32.ofInt_toInt _).symm, Int32.le_toInt _, Int32.toInt_lt _⟩
  obtain ⟨Sx1, Sm1, r, e1, e2, hrel1⟩ := hst Sx Sm hrel u1 hr1
  intro H locs ls hP hS hl
  refine lv_aload_n hx hb dL_law_837 rfl (lv_at hl 2 rfl) ?_
  refine lv_aload_n hx hb dL_law_838 rfl (lv_at hl 3 rfl) ?_
  refine lv_iload_n hx hb dL_law_839 rfl (lv_at hl 0 rfl) ?_
  refine lv_iconst (v := 1) hx hb dL_law_840 (by decide) ?_
  refine lv_iadd hx hb dL_law_841 ?_
  refine va_sld hx hb hX hbl hbA hS (hin 1 (by decide)) dL_law_842 ?_
  rw [hu1]
  refine lw_call (As := [.int (Int32.ofInt u1)]) (rest := []) ⟨hx, hb, hml, hown, hts⟩ hKx (P_left hP) (D_left (hDD (em Sx) (em Sm))) hS hA k_X8_many q_808 blind0 (fun _ _ _ => trivial) (c_X8_many e1) (WX_0 a g (em Sx)) rfl rfl rfl hl (Nat.le_of_ble_eq_true rfl) dL_law_843 ⟨(Nat.le_of_ble_eq_true rfl), (Nat.le_of_ble_eq_true rfl)⟩ ⟨(Nat.le_of_ble_eq_true rfl), (Nat.le_of_ble_eq_true rfl)⟩ rfl (fun H1 locs1 hk1 hP1 hS => ?_)
  replace hP := join_left hP (hDD (em Sx) (em Sm)) hk1 hP1
  clear hP1 hk1
  refine lv_aload_n hx hb dL_law_846 rfl (lv_at hl 1 rfl) ?_
  refine lv_aload_n hx hb dL_law_847 rfl (lv_at hl 3 rfl) ?_
  refine lv_iload_n hx hb dL_law_848 rfl (lv_at hl 0 rfl) ?_
  refine lv_iconst (v := 1) hx hb dL_law_849 (by decide) ?_
  refine lv_iadd hx hb dL_law_850 ?_
  refine va_sld hx hb hX hbl hbA hS (hin 1 (by decide)) dL_law_851 ?_
  rw [hu1]
  refine lw_call (As := [.int (Int32.ofInt u1)]) (rest := [.int (Int32.ofInt r)]) ⟨hx, hb, hml, hown, hts⟩ hKm (P_right hP) (D_right (hDD (em Sx1) (em Sm))) hS hA k_X9_many q_838 blind0 (fun _ _ _ => trivial) (c_X9_many e2) (WM_0 b h (em Sm)) rfl rfl rfl hl (Nat.le_of_ble_eq_true rfl) dL_law_852 ⟨(Nat.le_of_ble_eq_true rfl), (Nat.le_of_ble_eq_true rfl)⟩ ⟨(Nat.le_of_ble_eq_true rfl), (Nat.le_of_ble_eq_true rfl)⟩ rfl (fun H1 locs1 hk1 hP1 hS => ?_)
  replace hP := join_right hP (hDD (em Sx1) (em Sm)) hk1 hP1
  refine lv_icmp_eq (tgt := 860) hx hb dL_law_855 (by decide) (fun hq => ?_) (fun hq => absurd rfl hq)
  exact K Sx1 Sm1 hrel1 _ _ _ hP hS hl
theorem sw20 {x : Int32} (h : ¬ (x.toInt < 0 ∨ 19 < x.toInt)) : x = 0 ∨ x = 1 ∨ x = 2 ∨ x = 3 ∨ x = 4 ∨ x = 5 ∨ x = 6 ∨ x = 7 ∨ x = 8 ∨ x = 9 ∨ x = 10 ∨ x = 11 ∨ x = 12 ∨ x = 13 ∨ x = 14 ∨ x = 15 ∨ x = 16 ∨ x = 17 ∨ x = 18 ∨ x = 19 := by
  have h1 : x.toInt = 0 ∨ x.toInt = 1 ∨ x.toInt = 2 ∨ x.toInt = 3 ∨ x.toInt = 4 ∨ x.toInt = 5 ∨ x.toInt = 6 ∨ x.toInt = 7 ∨ x.toInt = 8 ∨ x.toInt = 9 ∨ x.toInt = 10 ∨ x.toInt = 11 ∨ x.toInt = 12 ∨ x.toInt = 13 ∨ x.toInt = 14 ∨ x.toInt = 15 ∨ x.toInt = 16 ∨ x.toInt = 17 ∨ x.toInt = 18 ∨ x.toInt = 19 := by omega
  rcases h1 with h1 | h1 | h1 | h1 | h1 | h1 | h1 | h1 | h1 | h1 | h1 | h1 | h1 | h1 | h1 | h1 | h1 | h1 | h1 | h1
  · exact Or.inl (Int32.toInt_inj.mp (by rw [h1]; decide))
  · exact Or.inr (Or.inl (Int32.toInt_inj.mp (by rw [h1]; decide)))
  · exact Or.inr (Or.inr (Or.inl (Int32.toInt_inj.mp (by rw [h1]; decide))))
  · exact Or.inr (Or.inr (Or.inr (Or.inl (Int32.toInt_inj.mp (by rw [h1]; decide)))))
  · exact Or.inr (Or.inr (Or.inr (Or.inr (Or.inl (Int32.toInt_inj.mp (by rw [h1]; decide))))))
  · exact Or.inr (Or.inr (Or.inr (Or.inr (Or.inr (Or.inl (Int32.toInt_inj.mp (by rw [h1]; decide)))))))
  · exact Or.inr (Or.inr (Or.inr (Or.inr (Or.inr (Or.inr (Or.inl (Int32.toInt_inj.mp (by rw [h1]; decide))))))))
  · exact Or.inr (Or.inr (Or.inr (Or.inr (Or.inr (Or.inr (Or.inr (Or.inl (Int32.toInt_inj.mp (by rw [h1]; decide)))))))))
  · exact Or.inr (Or.inr (Or.inr (Or.inr (Or.inr (Or.inr (Or.inr (Or.inr (Or.inl (Int32.toInt_inj.mp (by rw [h1]; decide))))))))))
  · exact Or.inr (Or.inr (Or.inr (Or.inr (Or.inr (Or.inr (Or.inr (Or.inr (Or.inr (Or.inl (Int32.toInt_inj.mp (by rw [h1]; decide)))))))))))
  · exact Or.inr (Or.inr (Or.inr (Or.inr (Or.inr (Or.inr (Or.inr (Or.inr (Or.inr (Or.inr (Or.inl (Int32.toInt_inj.mp (by rw [h1]; decide))))))))))))
  · exact Or.inr (Or.inr (Or.inr (Or.inr (Or.inr (Or.inr (Or.inr (Or.inr (Or.inr (Or.inr (Or.inr (Or.inl (Int32.toInt_inj.mp (by rw [h1]; decide)))))))))))))
  · exact Or.inr (Or.inr (Or.inr (Or.inr (Or.inr (Or.inr (Or.inr (Or.inr (Or.inr (Or.inr (Or.inr (Or.inr (Or.inl (Int32.toInt_inj.mp (by rw [h1]; decide))))))))))))))
  · exact Or.inr (Or.inr (Or.inr (Or.inr (Or.inr (Or.inr (Or.inr (Or.inr (Or.inr (Or.inr (Or.inr (Or.inr (Or.inr (Or.inl (Int32.toInt_inj.mp (by rw [h1]; decide)))))))))))))))
  · exact Or.inr (Or.inr (Or.inr (Or.inr (Or.inr (Or.inr (Or.inr (Or.inr (Or.inr (Or.inr (Or.inr (Or.inr (Or.inr (Or.inr (Or.inl (Int32.toInt_inj.mp (by rw [h1]; decide))))))))))))))))
  · exact Or.inr (Or.inr (Or.inr (Or.inr (Or.inr (Or.inr (Or.inr (Or.inr (Or.inr (Or.inr (Or.inr (Or.inr (Or.inr (Or.inr (Or.inr (Or.inl (Int32.toInt_inj.mp (by rw [h1]; decide)))))))))))))))))
  · exact Or.inr (Or.inr (Or.inr (Or.inr (Or.inr (Or.inr (Or.inr (Or.inr (Or.inr (Or.inr (Or.inr (Or.inr (Or.inr (Or.inr (Or.inr (Or.inr (Or.inl (Int32.toInt_inj.mp (by rw [h1]; decide))))))))))))))))))
  · exact Or.inr (Or.inr (Or.inr (Or.inr (Or.inr (Or.inr (Or.inr (Or.inr (Or.inr (Or.inr (Or.inr (Or.inr (Or.inr (Or.inr (Or.inr (Or.inr (Or.inr (Or.inl (Int32.toInt_inj.mp (by rw [h1]; decide)))))))))))))))))))
  · exact Or.inr (Or.inr (Or.inr (Or.inr (Or.inr (Or.inr (Or.inr (Or.inr (Or.inr (Or.inr (Or.inr (Or.inr (Or.inr (Or.inr (Or.inr (Or.inr (Or.inr (Or.inr (Or.inl (Int32.toInt_inj.mp (by rw [h1]; decide))))))))))))))))))))
  · exact Or.inr (Or.inr (Or.inr (Or.inr (Or.inr (Or.inr (Or.inr (Or.inr (Or.inr (Or.inr (Or.inr (Or.inr (Or.inr (Or.inr (Or.inr (Or.inr (Or.inr (Or.inr (Or.inr ((Int32.toInt_inj.mp (by rw [h1]; decide)))))))))))))))))))))
theorem x3_at {x3 : Int32} {L k : Nat} (hL : L ≤ 3584) (hk : x3.toInt = k) (hk2 : k ≤ 3600) (hq : ¬ (Int32.ofNat L - 7) < x3) : k + 7 ≤ L ∧ ∀ i : Nat, i < 7 → vp_in (x3 + Int32.ofNat i) L := by
  have e1 : (Int32.ofNat L).toInt = L := Int32.toInt_ofNat_of_lt (by omega)
  have e2 : (Int32.ofNat L - 7).toInt = (L : Int) - 7 := by
    rw [Int32.toInt_sub, e1, show (7 : Int32).toInt = 7 by decide, Int.bmod_eq_of_le (by omega) (by omega)]
  have h1 : ¬ (Int32.ofNat L - 7).toInt < x3.toInt := fun h => hq (Int32.lt_iff_toInt_lt.mpr h)
  have hkL : k + 7 ≤ L := by omega
  refine ⟨hkL, fun i hi => ?_⟩
  have e3 : (Int32.ofNat i).toInt = i := Int32.toInt_ofNat_of_lt (by omega)
  have e4 : (x3 + Int32.ofNat i).toInt = (k : Int) + i := by
    rw [Int32.toInt_add, hk, e3, Int.bmod_eq_of_le (by omega) (by omega)]
  intro h
  rcases h with h | h
  · have := Int32.lt_iff_toInt_lt.mp h
    rw [e4, show (0 : Int32).toInt = 0 by decide] at this
    omega
  · have h5 : (x3 + Int32.ofNat i).toNatClampNeg = k + i := by
      show (x3 + Int32.ofNat i).toInt.toNat = k + i
      rw [e4]; omega
    omega
theorem x3_next {x3 : Int32} {k : Nat} (hk : x3.toInt = k) (hk2 : k ≤ 3600) : (x3 + 7).toInt = (k + 7 : Nat) := by
  rw [Int32.toInt_add, hk, show (7 : Int32).toInt = 7 by decide, Int.bmod_eq_of_le (by omega) (by omega)]
  omega
set_option maxHeartbeats 4000000 in
set_option maxRecDepth 100000 in
/-- THE LAW'S LOOP -/
theorem law_loop (hL : L ≤ 3584) (hc : LC p s m meth c D a b g h bb L xs) (hst : Steps Rel) : ∀ (n k : Nat) (x3 : Int32) (Sx Sm : SZ), x3.toInt = k → k ≤ 3600 → L < k + 7 * n → Rel Sx Sm → LGo p l e s m below meth c D a b g h bb Sx Sm 18 [(3, .int x3), (2, .ref (b 0)), (1, .ref (a 0)), (0, .ref bb)] [] := by
  obtain ⟨⟨hx, hb, hml, hown, hts⟩, hKx, hKm, hDD, hX, hbl, hEB, hrt, hlocks⟩ := id hc
  have hbA : ¬ (fun q : Nat => s.heap.size ≤ q) bb := Nat.not_le.mpr hbl
  intro n
  induction n with
  | zero =>
    intro k x3 Sx Sm hk hk2 hlt hrel H locs ls hP hS hl
    refine lv_iload_n hx hb dL_law_18 rfl (lv_at hl 0 rfl) ?_
    refine lv_aload_n hx hb dL_law_19 rfl (lv_at hl 3 rfl) ?_
    refine va_slen hx hb hX hbl hbA hS dL_law_20 ?_
    refine lv_bipush (v := 7) hx hb dL_law_21 (by decide) ?_
    refine lv_isub hx hb dL_law_23 ?_
    refine lv_icmp_gt (tgt := 866) hx hb dL_law_24 (by decide) (fun hq => ?_) (fun hq => ?_)
    · refine lv_iconst (v := 1) hx hb dL_law_866 (by decide) ?_
      refine va_forget (fun q hq => hS.2.2 q hq) ?_
      exact lw_ret hx hb hrt hlocks dL_law_867
    · have h1 := (x3_at hL hk hk2 hq).1
      exact absurd hlt (by omega)
  | succ n ih =>
    intro k x3 Sx Sm hk hk2 hlt hrel H locs ls hP hS hl
    refine lv_iload_n hx hb dL_law_18 rfl (lv_at hl 0 rfl) ?_
    refine lv_aload_n hx hb dL_law_19 rfl (lv_at hl 3 rfl) ?_
    refine va_slen hx hb hX hbl hbA hS dL_law_20 ?_
    refine lv_bipush (v := 7) hx hb dL_law_21 (by decide) ?_
    refine lv_isub hx hb dL_law_23 ?_
    refine lv_icmp_gt (tgt := 866) hx hb dL_law_24 (by decide) (fun hq => ?_) (fun hq => ?_)
    · refine lv_iconst (v := 1) hx hb dL_law_866 (by decide) ?_
      refine va_forget (fun q hq => hS.2.2 q hq) ?_
      exact lw_ret hx hb hrt hlocks dL_law_867
    obtain ⟨hkL, hin⟩ := x3_at hL hk hk2 hq
    have K : ∀ Sx Sm : SZ, Rel Sx Sm → LGo p l e s m below meth c D a b g h bb Sx Sm 860 [(3, .int x3), (2, .ref (b 0)), (1, .ref (a 0)), (0, .ref bb)] [] := by
      intro Sx Sm hrel H locs ls hP hS hl
      obtain ⟨x4, ex4⟩ : ∃ y : Int32, y = x3 + 7 := ⟨_, rfl⟩
      refine lv_iinc (v := x4) (lv' := [(3, .int x4), (2, .ref (b 0)), (1, .ref (a 0)), (0, .ref bb)]) hx hb dL_law_860 hl (k := 0) rfl (by rw [ex4]; rfl) (by decide) rfl (fun ls hl => ?_)
      refine lv_goto (tgt := 18) hx hb dL_law_863 (by decide) ?_
      exact ih (k + 7) x4 Sx Sm (by rw [ex4]; exact x3_next hk hk2) (by omega) (by omega) hrel H locs ls hP hS hl
    refine lv_aload_n hx hb dL_law_27 rfl (lv_at hl 3 rfl) ?_
    refine lv_iload_n hx hb dL_law_28 rfl (lv_at hl 0 rfl) ?_
    have hin0 : vp_in x3 L := by have := hin 0 (by decide); rwa [show x3 + Int32.ofNat 0 = x3 by rw [show Int32.ofNat 0 = 0 by decide]; exact Int32.add_zero x3] at this
    refine va_sld hx hb hX hbl hbA hS hin0 dL_law_29 ?_
    refine lv_bipush (v := 31) hx hb dL_law_30 (by decide) ?_
    refine lv_iand hx hb dL_law_32 ?_
    by_cases hsw : (xs x3.toNatClampNeg &&& 31).toInt < 0 ∨ 19 < (xs x3.toNatClampNeg &&& 31).toInt
    · refine lv_tableOut (tgt := 860) hx hb dL_law_33 hsw (by decide) ?_
      exact K Sx Sm hrel H locs ls hP hS hl
    by_cases hs0 : (xs x3.toNatClampNeg &&& 31) = 0
    · refine lv_tableIn (off := 95) (tgt := 128) hx hb dL_law_33 (fun h9 => hsw (Or.inl h9)) (fun h9 => hsw (Or.inr h9)) (by rw [hs0]; rfl) (by decide) ?_
      exact law_point hc hst.1 hin hrel K _ _ _ hP hS hl
    by_cases hs1 : (xs x3.toNatClampNeg &&& 31) = 1
    · refine lv_tableIn (off := 138) (tgt := 171) hx hb dL_law_33 (fun h9 => hsw (Or.inl h9)) (fun h9 => hsw (Or.inr h9)) (by rw [hs1]; rfl) (by decide) ?_
      exact law_face hc hst.2.1 hin hrel K _ _ _ hP hS hl
    by_cases hs2 : (xs x3.toNatClampNeg &&& 31) = 2
    · refine lv_tableIn (off := 181) (tgt := 214) hx hb dL_law_33 (fun h9 => hsw (Or.inl h9)) (fun h9 => hsw (Or.inr h9)) (by rw [hs2]; rfl) (by decide) ?_
      exact law_wire hc hst.2.2.1 hin hrel K _ _ _ hP hS hl
    by_cases hs3 : (xs x3.toNatClampNeg &&& 31) = 3
    · refine lv_tableIn (off := 214) (tgt := 247) hx hb dL_law_33 (fun h9 => hsw (Or.inl h9)) (fun h9 => hsw (Or.inr h9)) (by rw [hs3]; rfl) (by decide) ?_
      exact law_block hc hst.2.2.2.1 hin hrel K _ _ _ hP hS hl
    by_cases hs4 : (xs x3.toNatClampNeg &&& 31) = 4
    · refine lv_tableIn (off := 289) (tgt := 322) hx hb dL_law_33 (fun h9 => hsw (Or.inl h9)) (fun h9 => hsw (Or.inr h9)) (by rw [hs4]; rfl) (by decide) ?_
      exact law_cut hc hst.2.2.2.2.1 hin hrel K _ _ _ hP hS hl
    by_cases hs5 : (xs x3.toNatClampNeg &&& 31) = 5
    · refine lv_tableIn (off := 302) (tgt := 335) hx hb dL_law_33 (fun h9 => hsw (Or.inl h9)) (fun h9 => hsw (Or.inr h9)) (by rw [hs5]; rfl) (by decide) ?_
      exact law_clear hc hst.2.2.2.2.2.1 hin hrel K _ _ _ hP hS hl
    by_cases hs6 : (xs x3.toNatClampNeg &&& 31) = 6
    · refine lv_tableIn (off := 315) (tgt := 348) hx hb dL_law_33 (fun h9 => hsw (Or.inl h9)) (fun h9 => hsw (Or.inr h9)) (by rw [hs6]; rfl) (by decide) ?_
      exact law_view hc hst.2.2.2.2.2.2.1 hin hrel K _ _ _ hP hS hl
    by_cases hs7 : (xs x3.toNatClampNeg &&& 31) = 7
    · refine lv_tableIn (off := 358) (tgt := 391) hx hb dL_law_33 (fun h9 => hsw (Or.inl h9)) (fun h9 => hsw (Or.inr h9)) (by rw [hs7]; rfl) (by decide) ?_
      exact law_turn hc hst.2.2.2.2.2.2.2.1 hin hrel K _ _ _ hP hS hl
    by_cases hs8 : (xs x3.toNatClampNeg &&& 31) = 8
    · refine lv_tableIn (off := 381) (tgt := 414) hx hb dL_law_33 (fun h9 => hsw (Or.inl h9)) (fun h9 => hsw (Or.inr h9)) (by rw [hs8]; rfl) (by decide) ?_
      exact law_move hc hst.2.2.2.2.2.2.2.2.1 hin hrel K _ _ _ hP hS hl
    by_cases hs9 : (xs x3.toNatClampNeg &&& 31) = 9
    · refine lv_tableIn (off := 424) (tgt := 457) hx hb dL_law_33 (fun h9 => hsw (Or.inl h9)) (fun h9 => hsw (Or.inr h9)) (by rw [hs9]; rfl) (by decide) ?_
      exact law_ofPoint hc hst.2.2.2.2.2.2.2.2.2.1 hin hrel K _ _ _ hP hS hl
    by_cases hs10 : (xs x3.toNatClampNeg &&& 31) = 10
    · refine lv_tableIn (off := 457) (tgt := 490) hx hb dL_law_33 (fun h9 => hsw (Or.inl h9)) (fun h9 => hsw (Or.inr h9)) (by rw [hs10]; rfl) (by decide) ?_
      exact law_ofFace hc hst.2.2.2.2.2.2.2.2.2.2.1 hin hrel K _ _ _ hP hS hl
    by_cases hs11 : (xs x3.toNatClampNeg &&& 31) = 11
    · refine lv_tableIn (off := 490) (tgt := 523) hx hb dL_law_33 (fun h9 => hsw (Or.inl h9)) (fun h9 => hsw (Or.inr h9)) (by rw [hs11]; rfl) (by decide) ?_
      exact law_ofEdge hc hst.2.2.2.2.2.2.2.2.2.2.2.1 hin hrel K _ _ _ hP hS hl
    by_cases hs12 : (xs x3.toNatClampNeg &&& 31) = 12
    · refine lv_tableIn (off := 523) (tgt := 556) hx hb dL_law_33 (fun h9 => hsw (Or.inl h9)) (fun h9 => hsw (Or.inr h9)) (by rw [hs12]; rfl) (by decide) ?_
      exact law_edge hc hst.2.2.2.2.2.2.2.2.2.2.2.2.1 hin hrel K _ _ _ hP hS hl
    by_cases hs13 : (xs x3.toNatClampNeg &&& 31) = 13
    · refine lv_tableIn (off := 556) (tgt := 589) hx hb dL_law_33 (fun h9 => hsw (Or.inl h9)) (fun h9 => hsw (Or.inr h9)) (by rw [hs13]; rfl) (by decide) ?_
      exact law_stretch hc hst.2.2.2.2.2.2.2.2.2.2.2.2.2.1 hin hrel K _ _ _ hP hS hl
    by_cases hs14 : (xs x3.toNatClampNeg &&& 31) = 14
    · refine lv_tableIn (off := 599) (tgt := 632) hx hb dL_law_33 (fun h9 => hsw (Or.inl h9)) (fun h9 => hsw (Or.inr h9)) (by rw [hs14]; rfl) (by decide) ?_
      exact law_hidden hc hst.2.2.2.2.2.2.2.2.2.2.2.2.2.2.1 hin hrel K _ _ _ hP hS hl
    by_cases hs15 : (xs x3.toNatClampNeg &&& 31) = 15
    · refine lv_tableIn (off := 642) (tgt := 675) hx hb dL_law_33 (fun h9 => hsw (Or.inl h9)) (fun h9 => hsw (Or.inr h9)) (by rw [hs15]; rfl) (by decide) ?_
      exact law_piece hc hst.2.2.2.2.2.2.2.2.2.2.2.2.2.2.2.1 hin hrel K _ _ _ hP hS hl
    by_cases hs16 : (xs x3.toNatClampNeg &&& 31) = 16
    · refine lv_tableIn (off := 685) (tgt := 718) hx hb dL_law_33 (fun h9 => hsw (Or.inl h9)) (fun h9 => hsw (Or.inr h9)) (by rw [hs16]; rfl) (by decide) ?_
      exact law_crossing hc hst.2.2.2.2.2.2.2.2.2.2.2.2.2.2.2.2.1 hin hrel K _ _ _ hP hS hl
    by_cases hs17 : (xs x3.toNatClampNeg &&& 31) = 17
    · refine lv_tableIn (off := 728) (tgt := 761) hx hb dL_law_33 (fun h9 => hsw (Or.inl h9)) (fun h9 => hsw (Or.inr h9)) (by rw [hs17]; rfl) (by decide) ?_
      exact law_stroke hc hst.2.2.2.2.2.2.2.2.2.2.2.2.2.2.2.2.2.1 hin hrel K _ _ _ hP hS hl
    by_cases hs18 : (xs x3.toNatClampNeg &&& 31) = 18
    · refine lv_tableIn (off := 761) (tgt := 794) hx hb dL_law_33 (fun h9 => hsw (Or.inl h9)) (fun h9 => hsw (Or.inr h9)) (by rw [hs18]; rfl) (by decide) ?_
      exact law_strokePiece hc hst.2.2.2.2.2.2.2.2.2.2.2.2.2.2.2.2.2.2.1 hin hrel K _ _ _ hP hS hl
    by_cases hs19 : (xs x3.toNatClampNeg &&& 31) = 19
    · refine lv_tableIn (off := 804) (tgt := 837) hx hb dL_law_33 (fun h9 => hsw (Or.inl h9)) (fun h9 => hsw (Or.inr h9)) (by rw [hs19]; rfl) (by decide) ?_
      exact law_many hc hst.2.2.2.2.2.2.2.2.2.2.2.2.2.2.2.2.2.2.2 hin hrel K _ _ _ hP hS hl
    exact absurd (sw20 hsw) (by simp [hs0, hs1, hs2, hs3, hs4, hs5, hs6, hs7, hs8, hs9, hs10, hs11, hs12, hs13, hs14, hs15, hs16, hs17, hs18, hs19])
end LAWK
