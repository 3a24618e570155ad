/-! THE STATE OF A SIDE: numbers of ints, longs, rows of ints (booleans too), rows of longs, each by its number -/
abbrev St : Type := (Nat → Int32) × (Nat → Int64) × (Nat → Nat → Int32) × (Nat → Nat → Int64)
def gi (S : St) (k : Nat) : Int32 := S.1 k
def gl (S : St) (k : Nat) : Int64 := S.2.1 k
def ga (S : St) (k : Nat) : Nat → Int32 := S.2.2.1 k
def gb (S : St) (k : Nat) : Nat → Int64 := S.2.2.2 k
def si (S : St) (k : Nat) (v : Int32) : St := (va_up S.1 k v, S.2.1, S.2.2.1, S.2.2.2)
def sl (S : St) (k : Nat) (v : Int64) : St := (S.1, va_up S.2.1 k v, S.2.2.1, S.2.2.2)
def sa (S : St) (k j : Nat) (v : Int32) : St := (S.1, S.2.1, va_up S.2.2.1 k (upd (S.2.2.1 k) j v), S.2.2.2)
def sb (S : St) (k j : Nat) (v : Int64) : St := (S.1, S.2.1, S.2.2.1, va_up S.2.2.2 k (vp_updL (S.2.2.2 k) j v))
/-! the steps of a written method: a test, a name, a call -/
def chk {β : Type} (c : Prop) [Decidable c] (k : Option β) : Option β := if c then k else none
def olet {α β : Type} (v : α) (k : α → Option β) : Option β := k v
def ob1 {α β : Type} (o : Option α) (k : α → Option β) : Option β := match o with
  | none => none
  | some q => k q
def ob2 {α γ β : Type} (o : Option (α × γ)) (k : α → γ → Option β) : Option β := match o with
  | none => none
  | some q => k q.1 q.2
abbrev inb (i : Int32) (n : Nat) : Prop := ¬ (i < 0 ∨ n ≤ i.toNatClampNeg)
def FU : Nat := 5000
theorem chk_at {β : Type} {c : Prop} [Decidable c] {k : Option β} {z : β} (h : chk c k = some z) : c ∧ k = some z := by
  unfold chk at h
  split at h
  · exact ⟨by assumption, h⟩
  · cases h
theorem olet_at {α β : Type} {v x : α} {k : α → Option β} {z : β} (e : x = v) (h : olet v k = some z) : k x = some z := by
  subst e; exact h
theorem ob1_at {α β : Type} {o : Option α} {k : α → Option β} {z : β} (h : ob1 o k = some z) : ∃ q, o = some q ∧ k q = some z := by
  cases o with
  | none => cases h
  | some q => exact ⟨q, rfl, h⟩
theorem ob2_at {α γ β : Type} {o : Option (α × γ)} {k : α → γ → Option β} {z : β} (h : ob2 o k = some z) : ∃ q r, o = some (q, r) ∧ k q r = some z := by
  cases o with
  | none => cases h
  | some q => exact ⟨q.1, q.2, rfl, h⟩
theorem if_yes {β : Type} {c : Prop} [Decidable c] {t f : Option β} {z : β} (hc : c) (h : (if c then t else f) = some z) : t = some z := by rw [if_pos hc] at h; exact h
theorem if_no {β : Type} {c : Prop} [Decidable c] {t f : Option β} {z : β} (hc : ¬ c) (h : (if c then t else f) = some z) : f = some z := by rw [if_neg hc] at h; exact h
/-! THE WORLD of a side: its cells by its state -/
def SameW (Wd : St → va_W) : Prop := ∀ S S' : St, (Wd S).map Prod.fst = (Wd S').map Prod.fst
theorem same_at {Wd : St → va_W} (h : SameW Wd) (S S' : St) {k : Nat} {q : Nat × va_E} (hq : (Wd S)[k]? = some q) : ∃ e, (Wd S')[k]? = some (q.1, e) := by
  have h1 : ((Wd S').map Prod.fst)[k]? = some q.1 := by rw [← h S S', List.getElem?_map, hq]; rfl
  rw [List.getElem?_map] at h1
  cases h2 : (Wd S')[k]? with
  | none => rw [h2] at h1; cases h1
  | some w =>
    rw [h2] at h1
    have h3 : w.1 = q.1 := Option.some.inj h1
    exact ⟨w.2, by rw [← h3]⟩
theorem same_D {Wd : St → va_W} (h : SameW Wd) {A : Nat → Prop} {S : St} (hD : va_D A (Wd S)) (S' : St) : va_D A (Wd S') := by
  refine ⟨fun i j p q h1 h2 h3 => ?_, fun k q hk => ?_⟩
  · obtain ⟨e1, g1⟩ := same_at h S' S h1
    obtain ⟨e2, g2⟩ := same_at h S' S h2
    exact hD.1 i j _ _ g1 g2 h3
  · obtain ⟨e1, g1⟩ := same_at h S' S hk
    exact hD.2 k (q.1, e1) g1
theorem same_A {Wd : St → va_W} (h : SameW Wd) {S S' : St} {sz q : Nat} (hq : va_A (Wd S) sz q) : va_A (Wd S') sz q := by
  rcases hq with ⟨k, e, hk⟩ | hq
  · obtain ⟨e1, g1⟩ := same_at h S S' hk
    exact Or.inl ⟨k, e1, g1⟩
  · exact Or.inr hq
def PreW (D : va_G) (tys : List (ClassId × FieldType)) (Wd : St → va_W) (S : St) (sz : Nat) (E : (Nat → Prop) → State → Prop) (U : State) : Prop :=
  U.heap.size = sz ∧ va_P D vwCl (Wd S) U.heap ∧ va_K D vwCl tys U ∧ va_D (fun _ => True) (Wd S) ∧ E (va_A (Wd S) sz) U
abbrev E0 : (Nat → Prop) → State → Prop := fun _ _ => True
/-- a method's contract: int, long, nothing -/
abbrev MetI (l : Launch) (D : va_G) (tys : List (ClassId × FieldType)) (Wd : St → va_W) (E : (Nat → Prop) → State → Prop) (y : MethodName) (cc : ByteArray) (nL : Nat) (ret : Option FieldType) (rm : Room) (av : List Value) (S : St) (z : St × Int32) : Prop :=
  ∀ sz : Nat, Met l y (Cond.code y cc nL ret :: wU) rm (va_Pc av (PreW D tys Wd S sz E)) (va_Qi (fun (r : Int32) (_ : Unit) => r = z.2) (fun _ t => va_P D vwCl (Wd z.1) t.heap) (va_A (Wd S) sz)) 0 0 (va_A (Wd S) sz)
abbrev MetL (l : Launch) (D : va_G) (tys : List (ClassId × FieldType)) (Wd : St → va_W) (E : (Nat → Prop) → State → Prop) (y : MethodName) (cc : ByteArray) (nL : Nat) (ret : Option FieldType) (rm : Room) (av : List Value) (S : St) (z : St × Int64) : Prop :=
  ∀ sz : Nat, Met l y (Cond.code y cc nL ret :: wU) rm (va_Pc av (PreW D tys Wd S sz E)) (va_Ql (fun (r : Int64) (_ : Unit) => r = z.2) (fun _ t => va_P D vwCl (Wd z.1) t.heap) (va_A (Wd S) sz)) 0 0 (va_A (Wd S) sz)
abbrev MetV (l : Launch) (D : va_G) (tys : List (ClassId × FieldType)) (Wd : St → va_W) (E : (Nat → Prop) → State → Prop) (y : MethodName) (cc : ByteArray) (nL : Nat) (ret : Option FieldType) (rm : Room) (av : List Value) (S : St) (z : St) : Prop :=
  ∀ sz : Nat, Met l y (Cond.code y cc nL ret :: wU) rm (va_Pc av (PreW D tys Wd S sz E)) (va_Qv (fun (_ : Unit) => True) (fun _ t => va_P D vwCl (Wd z) t.heap) (va_A (Wd S) sz)) 0 0 (va_A (Wd S) sz)
section BASE
variable {p : Program} {l : Launch} {e : Env} {R : Room} {s : State} {m : MethodId} {args : Array Value} {below : List Frame} {meth : Method} {c : Code} {Q : State → Prop} {D : va_G} {tys : List (ClassId × FieldType)} {A : Nat → Prop} {Wd : St → va_W} {cc : ByteArray} {nL nf no : Nat} {own : String}
/-- what a walk has at hand -/
def Cx (p : Program) (R : Room) (s : State) (m : MethodId) (args : Array Value) (c : Code) (D : va_G) (tys : List (ClassId × FieldType)) (A : Nat → Prop) (Wd : St → va_W) (cc : ByteArray) (nL : Nat) (own : String) (nf no : Nat) : Prop :=
  CallFix p m c cc nL s args wU own ∧ va_K D vwCl tys s ∧ (∀ S : St, va_D A (Wd S)) ∧ (∀ q : Nat, s.heap.size ≤ q → A q) ∧ nf ≤ R.frames ∧ no ≤ R.locals
/-- the walk goes on from here to the end -/
def Go (p : Program) (l : Launch) (e : Env) (R : Room) (s : State) (m : MethodId) (args : Array Value) (below : List Frame) (meth : Method) (c : Code) (Q : State → Prop) (D : va_G) (A : Nat → Prop) (Wd : St → va_W) (nL : Nat) (S : St) (pc : Nat) (lv : List (Nat × Value)) (st : List Value) : Prop :=
  ∀ (H : Heap) (locs : List Loc) (ls : Array Slot), va_P D vwCl (Wd S) H → va_S A s.heap H locs → lv_has ls nL lv → W p l e R s m args below meth c H locs 0 0 Q (F0 m pc ls st)
/-- the end of a method -/
def Rti (p : Program) (l : Launch) (e : Env) (R : Room) (s : State) (m : MethodId) (args : Array Value) (below : List Frame) (meth : Method) (c : Code) (Q : State → Prop) (D : va_G) (A : Nat → Prop) (Wd : St → va_W) (cc : ByteArray) (z : St × Int32) : Prop :=
  ∀ (H : Heap) (locs : List Loc) (ls : Array Slot) (pc : Nat), decode cc pc = .ok (.ireturn, 1) → va_P D vwCl (Wd z.1) H → va_S A s.heap H locs → W p l e R s m args below meth c H locs 0 0 Q (F0 m pc ls [.int z.2])
def Rtz (p : Program) (l : Launch) (e : Env) (R : Room) (s : State) (m : MethodId) (args : Array Value) (below : List Frame) (meth : Method) (c : Code) (Q : State → Prop) (D : va_G) (A : Nat → Prop) (Wd : St → va_W) (cc : ByteArray) (z : St × Int32) : Prop :=
  (z.2 = 0 ∨ z.2 = 1) → ∀ (H : Heap) (locs : List Loc) (ls : Array Slot) (pc : Nat), decode cc pc = .ok (.ireturn, 1) → va_P D vwCl (Wd z.1) H → va_S A s.heap H locs → W p l e R s m args below meth c H locs 0 0 Q (F0 m pc ls [.int z.2])
def Rtl (p : Program) (l : Launch) (e : Env) (R : Room) (s : State) (m : MethodId) (args : Array Value) (below : List Frame) (meth : Method) (c : Code) (Q : State → Prop) (D : va_G) (A : Nat → Prop) (Wd : St → va_W) (cc : ByteArray) (z : St × Int64) : Prop :=
  ∀ (H : Heap) (locs : List Loc) (ls : Array Slot) (pc : Nat), decode cc pc = .ok (.lreturn, 1) → va_P D vwCl (Wd z.1) H → va_S A s.heap H locs → W p l e R s m args below meth c H locs 0 0 Q (F0 m pc ls [.long z.2])
def Rtv (p : Program) (l : Launch) (e : Env) (R : Room) (s : State) (m : MethodId) (args : Array Value) (below : List Frame) (meth : Method) (c : Code) (Q : State → Prop) (D : va_G) (A : Nat → Prop) (Wd : St → va_W) (cc : ByteArray) (z : St) : Prop :=
  ∀ (H : Heap) (locs : List Loc) (ls : Array Slot) (pc : Nat), decode cc pc = .ok (.return_, 1) → va_P D vwCl (Wd z) H → va_S A s.heap H locs → W p l e R s m args below meth c H locs 0 0 Q (F0 m pc ls [])
end BASE
section MK
variable {l : Launch} {D : va_G} {tys : List (ClassId × FieldType)} {Wd : St → va_W} {cc : ByteArray} {nL : Nat} {y : MethodName} {rm : Room} {av : List Value} {S : St} {E : (Nat → Prop) → State → Prop}
set_option maxHeartbeats 4000000 in
theorem mk_i (hsame : SameW Wd) (hy : plainName y.cls = true) (z : St × Int32) (hlen : (lg_sl av).length ≤ nL)
    (body : ∀ (p : Program) (e : Env) (s : State) (m : MethodId) (args : Array Value) (below : List Frame) (meth : Method) (c : Code) (A : Nat → Prop) (Q : State → Prop), Cx p rm s m args c D tys A Wd cc nL y.cls rm.frames rm.locals → E A s → Rti p l e rm s m args below meth c Q D A Wd cc z → Go p l e rm s m args below meth c Q D A Wd nL S 0 (lv_args 0 av) []) :
    MetI l D tys Wd E y cc nL (some .int) rm av S z := by
  intro sz
  refine Met.ofW (cc := cc) (maxL := nL) (ret := some .int) hy rfl ?_
  intro p e s m args below meth c s₁ B hml hv
  obtain ⟨rfl, hsz, hP, hK, hD0, hE⟩ := hv
  have hlocks := B.notSynchronized
  have hr := B.returns
  subst hsz
  have hts0 := atoms_spec (ws := Cond.code y cc nL (some .int) :: wU) B.pre
  have hts : ∀ w ∈ wU, w.before av.toArray s = true := fun w h => hts0 w (List.mem_cons_of_mem _ h)
  have hA : ∀ q : Nat, s.heap.size ≤ q → va_A (Wd S) s.heap.size q := fun q h => Or.inr h
  have hD : ∀ S' : St, va_D (va_A (Wd S) s.heap.size) (Wd S') := fun S' => same_D hsame hD0.self S'
  rw [lg_entry_eq]
  refine body p e s m av.toArray below meth c (va_A (Wd S) s.heap.size) _ ⟨⟨B.exec, B.bytes, hml, findClass_of_methodNamed B.named, hts⟩, hK, hD, hA, Nat.le_refl _, Nat.le_refl _⟩ hE ?_ s.heap [] _ hP va_S.rf (lv_entry av hlen)
  intro H locs ls pc hd hP9 hS9
  exact W.iret (v := z.2) B.exec B.bytes hr (fun t ht hW => ⟨⟨z.2, (), rfl, rfl, by show va_P D vwCl (Wd z.1) t.heap; rw [ht]; exact hP9⟩, hS9.F ht⟩) hS9.2.2 hd
theorem narrow_z {v : Int32} (h : v = 0 ∨ v = 1) : narrow .boolean (.int v) = .int v := by
  rcases h with rfl | rfl <;> rfl
set_option maxHeartbeats 4000000 in
theorem mk_z (hsame : SameW Wd) (hy : plainName y.cls = true) (z : St × Int32) (hlen : (lg_sl av).length ≤ nL)
    (body : ∀ (p : Program) (e : Env) (s : State) (m : MethodId) (args : Array Value) (below : List Frame) (meth : Method) (c : Code) (A : Nat → Prop) (Q : State → Prop), Cx p rm s m args c D tys A Wd cc nL y.cls rm.frames rm.locals → E A s → Rtz p l e rm s m args below meth c Q D A Wd cc z → Go p l e rm s m args below meth c Q D A Wd nL S 0 (lv_args 0 av) []) :
    MetI l D tys Wd E y cc nL (some .boolean) rm av S z := by
  intro sz
  refine Met.ofW (cc := cc) (maxL := nL) (ret := some .boolean) hy rfl ?_
  intro p e s m args below meth c s₁ B hml hv
  obtain ⟨rfl, hsz, hP, hK, hD0, hE⟩ := hv
  have hlocks := B.notSynchronized
  have hr := B.returns
  subst hsz
  have hts0 := atoms_spec (ws := Cond.code y cc nL (some .boolean) :: wU) B.pre
  have hts : ∀ w ∈ wU, w.before av.toArray s = true := fun w h => hts0 w (List.mem_cons_of_mem _ h)
  have hA : ∀ q : Nat, s.heap.size ≤ q → va_A (Wd S) s.heap.size q := fun q h => Or.inr h
  have hD : ∀ S' : St, va_D (va_A (Wd S) s.heap.size) (Wd S') := fun S' => same_D hsame hD0.self S'
  rw [lg_entry_eq]
  refine body p e s m av.toArray below meth c (va_A (Wd S) s.heap.size) _ ⟨⟨B.exec, B.bytes, hml, findClass_of_methodNamed B.named, hts⟩, hK, hD, hA, Nat.le_refl _, Nat.le_refl _⟩ hE ?_ s.heap [] _ hP va_S.rf (lv_entry av hlen)
  intro hz H locs ls pc hd hP9 hS9
  exact W.zret (v := z.2) B.exec B.bytes hr (narrow_z hz) (fun t ht hW => ⟨⟨z.2, (), rfl, rfl, by show va_P D vwCl (Wd z.1) t.heap; rw [ht]; exact hP9⟩, hS9.F ht⟩) hS9.2.2 hd
set_option maxHeartbeats 4000000 in
theorem mk_l (hsame : SameW Wd) (hy : plainName y.cls = true) (z : St × Int64) (hlen : (lg_sl av).length ≤ nL)
    (body : ∀ (p : Program) (e : Env) (s : State) (m : MethodId) (args : Array Value) (below : List Frame) (meth : Method) (c : Code) (A : Nat → Prop) (Q : State → Prop), Cx p rm s m args c D tys A Wd cc nL y.cls rm.frames rm.locals → E A s → Rtl p l e rm s m args below meth c Q D A Wd cc z → Go p l e rm s m args below meth c Q D A Wd nL S 0 (lv_args 0 av) []) :
    MetL l D tys Wd E y cc nL (some .long) rm av S z := by
  intro sz
  refine Met.ofW (cc := cc) (maxL := nL) (ret := some .long) hy rfl ?_
  intro p e s m args below meth c s₁ B hml hv
  obtain ⟨rfl, hsz, hP, hK, hD0, hE⟩ := hv
  have hlocks := B.notSynchronized
  have hr := B.returns
  subst hsz
  have hts0 := atoms_spec (ws := Cond.code y cc nL (some .long) :: wU) B.pre
  have hts : ∀ w ∈ wU, w.before av.toArray s = true := fun w h => hts0 w (List.mem_cons_of_mem _ h)
  have hA : ∀ q : Nat, s.heap.size ≤ q → va_A (Wd S) s.heap.size q := fun q h => Or.inr h
  have hD : ∀ S' : St, va_D (va_A (Wd S) s.heap.size) (Wd S') := fun S' => same_D hsame hD0.self S'
  rw [lg_entry_eq]
  refine body p e s m av.toArray below meth c (va_A (Wd S) s.heap.size) _ ⟨⟨B.exec, B.bytes, hml, findClass_of_methodNamed B.named, hts⟩, hK, hD, hA, Nat.le_refl _, Nat.le_refl _⟩ hE ?_ s.heap [] _ hP va_S.rf (lv_entry av hlen)
  intro H locs ls pc hd hP9 hS9
  exact W.lret (v := z.2) B.exec B.bytes hr (fun t ht hW => ⟨⟨z.2, (), rfl, rfl, by show va_P D vwCl (Wd z.1) t.heap; rw [ht]; exact hP9⟩, hS9.F ht⟩) hS9.2.2 hd
set_option maxHeartbeats 4000000 in
theorem mk_v (hsame : SameW Wd) (hy : plainName y.cls = true) (z : St) (hlen : (lg_sl av).length ≤ nL)
    (body : ∀ (p : Program) (e : Env) (s : State) (m : MethodId) (args : Array Value) (below : List Frame) (meth : Method) (c : Code) (A : Nat → Prop) (Q : State → Prop), Cx p rm s m args c D tys A Wd cc nL y.cls rm.frames rm.locals → E A s → Rtv p l e rm s m args below meth c Q D A Wd cc z → Go p l e rm s m args below meth c Q D A Wd nL S 0 (lv_args 0 av) []) :
    MetV l D tys Wd E y cc nL none rm av S z := by
  intro sz
  refine Met.ofW (cc := cc) (maxL := nL) (ret := none) hy rfl ?_
  intro p e s m args below meth c s₁ B hml hv
  obtain ⟨rfl, hsz, hP, hK, hD0, hE⟩ := hv
  have hlocks := B.notSynchronized
  have hr := B.returns
  subst hsz
  have hts0 := atoms_spec (ws := Cond.code y cc nL none :: wU) B.pre
  have hts : ∀ w ∈ wU, w.before av.toArray s = true := fun w h => hts0 w (List.mem_cons_of_mem _ h)
  have hA : ∀ q : Nat, s.heap.size ≤ q → va_A (Wd S) s.heap.size q := fun q h => Or.inr h
  have hD : ∀ S' : St, va_D (va_A (Wd S) s.heap.size) (Wd S') := fun S' => same_D hsame hD0.self S'
  rw [lg_entry_eq]
  refine body p e s m av.toArray below meth c (va_A (Wd S) s.heap.size) _ ⟨⟨B.exec, B.bytes, hml, findClass_of_methodNamed B.named, hts⟩, hK, hD, hA, Nat.le_refl _, Nat.le_refl _⟩ hE ?_ s.heap [] _ hP va_S.rf (lv_entry av hlen)
  intro H locs ls pc hd hP9 hS9
  exact W.vret B.exec B.bytes hr (fun t ht hW => ⟨⟨(), rfl, trivial, by show va_P D vwCl (Wd z) t.heap; rw [ht]; exact hP9⟩, hS9.F ht⟩) hS9.2.2 hd
end MK
