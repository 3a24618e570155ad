/-! the static row BLOCK, which nobody writes -/
def BLK (j : Nat) : Int32 := ([0, 2, 3, 0, 3, 1, 4, 5, 7, 4, 7, 6, 0, 1, 5, 0, 5, 4, 2, 6, 7, 2, 7, 3, 0, 4, 6, 0, 6, 2, 1, 3, 7, 1, 7, 5] : List Int32).getD j 0
def EB (A : Nat → Prop) (U : State) : Prop := ∃ tb : Nat, va_Z RX8 "BLOCK" "[I" (.ref tb) A U U.heap ∧ va_T .int tb 36 (fun j => .int (BLK j)) A U U.heap
theorem blindB : Blind EB := by
  intro A a U g mk h
  obtain ⟨tb, h1, h2⟩ := h
  exact ⟨tb, va_Z.moved (u := U) (U := U.calling g mk a) (Vm.Alike.refl U.vm) h1, va_T.moved (u := U) (U := U.calling g mk a) (Vm.Alike.refl U.vm) h2⟩
theorem EB_at {p : Program} {R : Room} {s : State} {m : MethodId} {args : Array Value} {c : Code} {D : va_G} {tys : List (ClassId × FieldType)} {A : Nat → Prop} {Wd : St → va_W} {cc : ByteArray} {nL nf no : Nat} {own : String} {H : Heap} {locs : List Loc} {S : St} (hc : Cx p R s m args c D tys A Wd cc nL own nf no) (hS : va_S A s.heap H locs) (hE : EB A s) : ∀ U : State, U.heap = H → s.WarmedH U.vm → EB (va_A (Wd S) H.size) U := by
  intro U hU hW
  obtain ⟨tb, h1, h2⟩ := hE
  refine ⟨tb, ?_, ?_⟩
  · rw [hU]
    exact (va_Z.moved hW.alike (h1.kept (H1 := H) hS.2.1)).narrow (hc.free hS S)
  · rw [hU]
    exact (va_T.moved hW.alike (h2.kept (H1 := H) hS.2.1)).narrow (hc.free hS S)
def BLKz (j : Nat) : Int := ([0, 2, 3, 0, 3, 1, 4, 5, 7, 4, 7, 6, 0, 1, 5, 0, 5, 4, 2, 6, 7, 2, 7, 3, 0, 4, 6, 0, 6, 2, 1, 3, 7, 1, 7, 5] : List Int).getD j 0
theorem BLK_z (j : Nat) : BLK j = Int32.ofInt (BLKz j) := by
  by_cases h : j < 36
  · have h2 : ∀ k : Fin 36, BLK k.val = Int32.ofInt (BLKz k.val) := by decide +kernel
    exact h2 ⟨j, h⟩
  · have e1 : BLK j = 0 := by
      unfold BLK
      rw [List.getD_eq_getElem?_getD, List.getElem?_eq_none (by show 36 ≤ j; omega)]; rfl
    have e2 : BLKz j = 0 := by
      unfold BLKz
      rw [List.getD_eq_getElem?_getD, List.getElem?_eq_none (by show 36 ≤ j; omega)]; rfl
    rw [e1, e2]; rfl
theorem zt_blk {p : Program} {l : Launch} {e : Env} {R : Room} {s : State} {m : MethodId} {args : Array Value} {below : List Frame} {meth : Method} {c : Code} {Q : State → Prop} {H : Heap} {locs : List Loc} {cc : ByteArray} {ls : Array Slot} {pc : Nat} {rest : List Value} {A : Nat → Prop} {tb : Nat} (hx : p.tables.exec = Jvm.exec) (hb : c.code = cc) (hT : va_T .int tb 36 (fun j => .int (BLK j)) A s s.heap) (hS : va_S A s.heap H locs) {i : Int} (hin : ins i 36) (hdg : decode cc pc = .ok (.iaload, 1)) (kk : W p l e R s m args below meth c H locs 0 0 Q (F0 m (pc + 1) ls (.int (Int32.ofInt (BLKz i.toNat)) :: rest))) : W p l e R s m args below meth c H locs 0 0 Q (F0 m pc ls (.int (Int32.ofInt i) :: .ref tb :: rest)) :=
  va_ti (v := .int (Int32.ofInt (BLKz i.toNat))) hx hb hT hS (ins_inb (n := 36) hin (by decide)) (by rw [ins_nat (n := 36) hin (by decide)]; exact congrArg Value.int (BLK_z _)) hdg kk
