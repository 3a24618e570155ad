def ZX0 : SZ := ((fun k => if k = 1 then (-9) else if k = 7 then 1 else if k = 11 then (-9) else 0), (fun _ => 0), (fun _ _ => 0), (fun _ _ => 0))
def ZM0 : SZ := ((fun k => if k = 5 then 1 else 0), (fun _ => 0), (fun k => if k = 6 then BLKz else fun _ => 0), (fun _ _ => 0))
theorem em_ZX0 : em ZX0 = SX0 := by
  refine Prod.ext (funext fun k => ?_) rfl
  show Int32.ofInt (if k = 1 then (-9) else if k = 7 then 1 else if k = 11 then (-9) else 0) = (if k = 1 then (-9) else if k = 7 then 1 else if k = 11 then (-9) else 0)
  by_cases h1 : k = 1
  · simp only [h1, if_true]; rfl
  by_cases h2 : k = 7
  · simp only [h2, if_true]; rfl
  by_cases h3 : k = 11
  · simp only [h3, if_true]; rfl
  simp only [h1, h2, h3, if_false]; rfl
theorem BC_z (j : Nat) : BC j = Int32.ofInt (BLKz j) := by
  by_cases h : j < 36
  · have h2 : ∀ k : Fin 36, BC k.val = Int32.ofInt (BLKz k.val) := by decide +kernel
    exact h2 ⟨j, h⟩
  · have hu : ∀ (f : Nat → Int32) (k : Nat) (x : Int32), k < 36 → upd f k x j = f j := fun f k x hk => by unfold upd; rw [if_neg (by omega)]
    rw [← BLK_z]
    have e1 : BLK j = 0 := by
      unfold BLK
      rw [List.getD_eq_getElem?_getD, List.getElem?_eq_none (by show 36 ≤ j; omega)]; rfl
    rw [e1]
    unfold BC
    repeat rw [hu _ _ _ (by decide)]
theorem em_ZM0 : em ZM0 = SM0 := by
  refine Prod.ext (funext fun k => ?_) (Prod.ext rfl (Prod.ext (funext fun k => funext fun j => ?_) rfl))
  · show Int32.ofInt (if k = 5 then 1 else 0) = (if k = 5 then 1 else 0)
    by_cases h1 : k = 5
    · simp only [h1, if_true]; rfl
    simp only [h1, if_false]; rfl
  · show Int32.ofInt ((if k = 6 then BLKz else fun _ => 0) j) = (if k = 6 then BC else fun _ => 0) j
    by_cases h1 : k = 6
    · simp only [h1, if_true]; exact (BC_z j).symm
    simp only [h1, if_false]; rfl
theorem EB_of {bb : Nat} {s : State} (hts : ∀ w ∈ lw_tbl, w.before #[Value.ref bb] s = true) (hgv : (Jvm.Cond.and given_1 narrow_1).before #[Value.ref bb] s = true) : EB (fun q : Nat => s.heap.size ≤ q) s := by
  have hs := flat_of_before _ hgv
  have harr : (Cond.arrayOf (.static "HiddenEdges" "BLOCK" "[I") .int).before #[Value.ref bb] s = true := hs _ (by decide +kernel)
  have hlen : (Cond.eq (.length (.static "HiddenEdges" "BLOCK" "[I")) (.int 36)).before #[Value.ref bb] s = true := hs _ (by decide +kernel)
  have hA : ∀ a : Nat, a < s.heap.size → ¬ (fun q : Nat => s.heap.size ≤ q) a := fun a h => Nat.not_le.mpr h
  have h0 : (Cond.eq (.elem (.static "HiddenEdges" "BLOCK" "[I") (.int 0)) (.int 0)).before #[Value.ref bb] s = true := hs _ (by decide +kernel)
  have h1 : (Cond.eq (.elem (.static "HiddenEdges" "BLOCK" "[I") (.int 1)) (.int 2)).before #[Value.ref bb] s = true := hs _ (by decide +kernel)
  have h2 : (Cond.eq (.elem (.static "HiddenEdges" "BLOCK" "[I") (.int 2)) (.int 3)).before #[Value.ref bb] s = true := hs _ (by decide +kernel)
  have h3 : (Cond.eq (.elem (.static "HiddenEdges" "BLOCK" "[I") (.int 3)) (.int 0)).before #[Value.ref bb] s = true := hs _ (by decide +kernel)
  have h4 : (Cond.eq (.elem (.static "HiddenEdges" "BLOCK" "[I") (.int 4)) (.int 3)).before #[Value.ref bb] s = true := hs _ (by decide +kernel)
  have h5 : (Cond.eq (.elem (.static "HiddenEdges" "BLOCK" "[I") (.int 5)) (.int 1)).before #[Value.ref bb] s = true := hs _ (by decide +kernel)
  have h6 : (Cond.eq (.elem (.static "HiddenEdges" "BLOCK" "[I") (.int 6)) (.int 4)).before #[Value.ref bb] s = true := hs _ (by decide +kernel)
  have h7 : (Cond.eq (.elem (.static "HiddenEdges" "BLOCK" "[I") (.int 7)) (.int 5)).before #[Value.ref bb] s = true := hs _ (by decide +kernel)
  have h8 : (Cond.eq (.elem (.static "HiddenEdges" "BLOCK" "[I") (.int 8)) (.int 7)).before #[Value.ref bb] s = true := hs _ (by decide +kernel)
  have h9 : (Cond.eq (.elem (.static "HiddenEdges" "BLOCK" "[I") (.int 9)) (.int 4)).before #[Value.ref bb] s = true := hs _ (by decide +kernel)
  have h10 : (Cond.eq (.elem (.static "HiddenEdges" "BLOCK" "[I") (.int 10)) (.int 7)).before #[Value.ref bb] s = true := hs _ (by decide +kernel)
  have h11 : (Cond.eq (.elem (.static "HiddenEdges" "BLOCK" "[I") (.int 11)) (.int 6)).before #[Value.ref bb] s = true := hs _ (by decide +kernel)
  have h12 : (Cond.eq (.elem (.static "HiddenEdges" "BLOCK" "[I") (.int 12)) (.int 0)).before #[Value.ref bb] s = true := hs _ (by decide +kernel)
  have h13 : (Cond.eq (.elem (.static "HiddenEdges" "BLOCK" "[I") (.int 13)) (.int 1)).before #[Value.ref bb] s = true := hs _ (by decide +kernel)
  have h14 : (Cond.eq (.elem (.static "HiddenEdges" "BLOCK" "[I") (.int 14)) (.int 5)).before #[Value.ref bb] s = true := hs _ (by decide +kernel)
  have h15 : (Cond.eq (.elem (.static "HiddenEdges" "BLOCK" "[I") (.int 15)) (.int 0)).before #[Value.ref bb] s = true := hs _ (by decide +kernel)
  have h16 : (Cond.eq (.elem (.static "HiddenEdges" "BLOCK" "[I") (.int 16)) (.int 5)).before #[Value.ref bb] s = true := hs _ (by decide +kernel)
  have h17 : (Cond.eq (.elem (.static "HiddenEdges" "BLOCK" "[I") (.int 17)) (.int 4)).before #[Value.ref bb] s = true := hs _ (by decide +kernel)
  have h18 : (Cond.eq (.elem (.static "HiddenEdges" "BLOCK" "[I") (.int 18)) (.int 2)).before #[Value.ref bb] s = true := hs _ (by decide +kernel)
  have h19 : (Cond.eq (.elem (.static "HiddenEdges" "BLOCK" "[I") (.int 19)) (.int 6)).before #[Value.ref bb] s = true := hs _ (by decide +kernel)
  have h20 : (Cond.eq (.elem (.static "HiddenEdges" "BLOCK" "[I") (.int 20)) (.int 7)).before #[Value.ref bb] s = true := hs _ (by decide +kernel)
  have h21 : (Cond.eq (.elem (.static "HiddenEdges" "BLOCK" "[I") (.int 21)) (.int 2)).before #[Value.ref bb] s = true := hs _ (by decide +kernel)
  have h22 : (Cond.eq (.elem (.static "HiddenEdges" "BLOCK" "[I") (.int 22)) (.int 7)).before #[Value.ref bb] s = true := hs _ (by decide +kernel)
  have h23 : (Cond.eq (.elem (.static "HiddenEdges" "BLOCK" "[I") (.int 23)) (.int 3)).before #[Value.ref bb] s = true := hs _ (by decide +kernel)
  have h24 : (Cond.eq (.elem (.static "HiddenEdges" "BLOCK" "[I") (.int 24)) (.int 0)).before #[Value.ref bb] s = true := hs _ (by decide +kernel)
  have h25 : (Cond.eq (.elem (.static "HiddenEdges" "BLOCK" "[I") (.int 25)) (.int 4)).before #[Value.ref bb] s = true := hs _ (by decide +kernel)
  have h26 : (Cond.eq (.elem (.static "HiddenEdges" "BLOCK" "[I") (.int 26)) (.int 6)).before #[Value.ref bb] s = true := hs _ (by decide +kernel)
  have h27 : (Cond.eq (.elem (.static "HiddenEdges" "BLOCK" "[I") (.int 27)) (.int 0)).before #[Value.ref bb] s = true := hs _ (by decide +kernel)
  have h28 : (Cond.eq (.elem (.static "HiddenEdges" "BLOCK" "[I") (.int 28)) (.int 6)).before #[Value.ref bb] s = true := hs _ (by decide +kernel)
  have h29 : (Cond.eq (.elem (.static "HiddenEdges" "BLOCK" "[I") (.int 29)) (.int 2)).before #[Value.ref bb] s = true := hs _ (by decide +kernel)
  have h30 : (Cond.eq (.elem (.static "HiddenEdges" "BLOCK" "[I") (.int 30)) (.int 1)).before #[Value.ref bb] s = true := hs _ (by decide +kernel)
  have h31 : (Cond.eq (.elem (.static "HiddenEdges" "BLOCK" "[I") (.int 31)) (.int 3)).before #[Value.ref bb] s = true := hs _ (by decide +kernel)
  have h32 : (Cond.eq (.elem (.static "HiddenEdges" "BLOCK" "[I") (.int 32)) (.int 7)).before #[Value.ref bb] s = true := hs _ (by decide +kernel)
  have h33 : (Cond.eq (.elem (.static "HiddenEdges" "BLOCK" "[I") (.int 33)) (.int 1)).before #[Value.ref bb] s = true := hs _ (by decide +kernel)
  have h34 : (Cond.eq (.elem (.static "HiddenEdges" "BLOCK" "[I") (.int 34)) (.int 7)).before #[Value.ref bb] s = true := hs _ (by decide +kernel)
  have h35 : (Cond.eq (.elem (.static "HiddenEdges" "BLOCK" "[I") (.int 35)) (.int 5)).before #[Value.ref bb] s = true := hs _ (by decide +kernel)
  obtain ⟨t, ht, hT⟩ := va_Tof (tm := .static "HiddenEdges" "BLOCK" "[I") (ty := .int) (N := 36) (f := fun j => .int (BLK j)) (A := fun q : Nat => s.heap.size ≤ q) (by decide) harr (va_eqt hlen) (fun j hj => by
    rcases (show j = 0 ∨ j = 1 ∨ j = 2 ∨ j = 3 ∨ j = 4 ∨ j = 5 ∨ j = 6 ∨ j = 7 ∨ j = 8 ∨ j = 9 ∨ j = 10 ∨ j = 11 ∨ j = 12 ∨ j = 13 ∨ j = 14 ∨ j = 15 ∨ j = 16 ∨ j = 17 ∨ j = 18 ∨ j = 19 ∨ j = 20 ∨ j = 21 ∨ j = 22 ∨ j = 23 ∨ j = 24 ∨ j = 25 ∨ j = 26 ∨ j = 27 ∨ j = 28 ∨ j = 29 ∨ j = 30 ∨ j = 31 ∨ j = 32 ∨ j = 33 ∨ j = 34 ∨ j = 35 by omega) with rfl | rfl | rfl | rfl | rfl | rfl | rfl | rfl | rfl | rfl | rfl | rfl | rfl | rfl | rfl | rfl | rfl | rfl | rfl | rfl | rfl | rfl | rfl | rfl | rfl | rfl | rfl | rfl | rfl | rfl | rfl | rfl | rfl | rfl | rfl | rfl
    · exact va_eqt h0
    · exact va_eqt h1
    · exact va_eqt h2
    · exact va_eqt h3
    · exact va_eqt h4
    · exact va_eqt h5
    · exact va_eqt h6
    · exact va_eqt h7
    · exact va_eqt h8
    · exact va_eqt h9
    · exact va_eqt h10
    · exact va_eqt h11
    · exact va_eqt h12
    · exact va_eqt h13
    · exact va_eqt h14
    · exact va_eqt h15
    · exact va_eqt h16
    · exact va_eqt h17
    · exact va_eqt h18
    · exact va_eqt h19
    · exact va_eqt h20
    · exact va_eqt h21
    · exact va_eqt h22
    · exact va_eqt h23
    · exact va_eqt h24
    · exact va_eqt h25
    · exact va_eqt h26
    · exact va_eqt h27
    · exact va_eqt h28
    · exact va_eqt h29
    · exact va_eqt h30
    · exact va_eqt h31
    · exact va_eqt h32
    · exact va_eqt h33
    · exact va_eqt h34
    · exact va_eqt h35) hA
  exact ⟨t, va_Zof (hts _ (tb_2 _ (List.mem_of_getElem? (i := 135) rfl))) (hts _ (wU_in _ q_2)) ht hA, hT⟩
set_option maxHeartbeats 4000000 in
set_option maxRecDepth 100000 in
/-- THE LAW, from its entry, where the two sides answer alike -/
theorem whole_of {p : Program} {e : Env} {s : State} {m : MethodId} {below : List Frame} {meth : Method} {c : Code} (l : Launch) {b L : Nat} {xs : Nat → Int32} (hL : L ≤ 3584) (C0 : lw_At p s m meth c b L xs) {Rel : SZ → SZ → Prop} (hst : Steps Rel) (h00 : Rel ZX0 ZM0) : W p l e room_1 s m #[Value.ref b] below meth c s.heap [] 0 0 (lw_Z below #[Value.ref b] s) (entryFrame m ([Value.ref b] : List Value).toArray 4) := by
  obtain ⟨hx, hb, hr, hml, hown0, htsT, hX, hbl, hlocks, hgv⟩ := id C0
  have hown : s.vm.findClass RL = some m.cls := hown0
  have hts : ∀ w ∈ wU, w.before #[Value.ref b] s = true := fun w h => htsT w (wU_in w h)
  have hEB := EB_of htsT hgv
  have hNST : NST s := ⟨va_Nw.of rfl (htsT _ nest_X4), va_Nw.of rfl (htsT _ nest_X6), va_Nw.of rfl (htsT _ nest_X1), va_Nw.of rfl (htsT _ nest_X0), va_Nw.of rfl (htsT _ nest_X5), va_Nw.of rfl (htsT _ nest_X7), va_Nw.of rfl (htsT _ nest_X3)⟩
  have hA : ∀ q : Nat, s.heap.size ≤ q → (fun q : Nat => s.heap.size ≤ q) q := fun _ h => h
  have hbA : ¬ (fun q : Nat => s.heap.size ≤ q) b := Nat.not_le.mpr hbl
  obtain ⟨c0, iS0, hKn0⟩ := u_known (C := RX0) (T := TX0) (N := 8) (n := 8) hts inlX0 (hts _ q_25)
  obtain ⟨c1, iS1, hKn1⟩ := u_known (C := RX1) (T := TX1) (N := 7) (n := 7) hts inlX1 (hts _ q_21)
  obtain ⟨c2, iS2, hKn2⟩ := u_known (C := RX3) (T := TX3) (N := 4) (n := 4) hts inlX3 (hts _ q_37)
  obtain ⟨c3, iS3, hKn3⟩ := u_known (C := RX4) (T := TX4) (N := 8) (n := 8) hts inlX4 (hts _ q_13)
  obtain ⟨c4, iS4, hKn4⟩ := u_known (C := RX5) (T := TX5) (N := 5) (n := 5) hts inlX5 (hts _ q_29)
  obtain ⟨c5, iS5, hKn5⟩ := u_known (C := RX6) (T := TX6) (N := 9) (n := 9) hts inlX6 (hts _ q_17)
  obtain ⟨c6, iS6, hKn6⟩ := u_known (C := RX7) (T := TX7) (N := 5) (n := 5) hts inlX7 (hts _ q_33)
  obtain ⟨c7, iS7, hKn7⟩ := u_known (C := RX8) (T := TX8) (N := 10) (n := 10) hts inlX8 (hts _ q_1)
  obtain ⟨c8, iS8, hKn8⟩ := u_known (C := RX9) (T := TX9) (N := 39) (n := 39) hts inlX9 (hts _ q_4)
  obtain ⟨dC, dI, hKc⟩ : ∃ (dC : Nat → ClassId) (dI : Nat → Nat → Nat), ∀ (k : Nat) (q : vw_C), vwCl[k]? = some q → u_Kn s q.1 q.2.1 q.2.2 (dC k) (dI k) := by
    refine ⟨fun k => if k = 0 then c0 else if k = 1 then c1 else if k = 2 then c2 else if k = 3 then c3 else if k = 4 then c4 else if k = 5 then c5 else if k = 6 then c6 else if k = 7 then c7 else c8, fun k => if k = 0 then iS0 else if k = 1 then iS1 else if k = 2 then iS2 else if k = 3 then iS3 else if k = 4 then iS4 else if k = 5 then iS5 else if k = 6 then iS6 else if k = 7 then iS7 else iS8, ?_⟩
    intro k q hq
    match k, hq with
    | 0, hq => cases hq; exact hKn0
    | 1, hq => cases hq; exact hKn1
    | 2, hq => cases hq; exact hKn2
    | 3, hq => cases hq; exact hKn3
    | 4, hq => cases hq; exact hKn4
    | 5, hq => cases hq; exact hKn5
    | 6, hq => cases hq; exact hKn6
    | 7, hq => cases hq; exact hKn7
    | 8, hq => cases hq; exact hKn8
    | k + 9, hq => simp [vwCl] at hq
  have hS : va_S (fun q : Nat => s.heap.size ≤ q) s.heap s.heap [] := va_S.rf
  have hK : va_K (dC, dI) vwCl [] s := ⟨hKc, fun k q h => by simp at h⟩
  have hP : va_P (dC, dI) vwCl [] s.heap := fun k q h => by simp at h
  have hD : va_D (fun q : Nat => s.heap.size ≤ q) [] := ⟨fun i j p q h => by simp at h, fun k q h => by simp at h⟩
  have hl := lv_entry ([.ref b]) (n := 4) (Nat.le_of_ble_eq_true rfl)
  rw [lg_entry_eq]
  generalize (lg_sl ([.ref b]) ++ List.replicate (4 - (lg_sl ([.ref b])).length) Slot.unset).toArray = ls at hl ⊢
  have hl : lv_has ls 4 [(0, .ref b)] := hl
  refine va_new (ci := 7) (fs := [.null, .null, .null, .null, .null, .null, .null, .null, .int 0, .int 0]) (C := RX8) (T := TX8) (N := 10) hx hb hts inlX8 tyX8 tyX8_ok hown (hts _ q_0) (hts _ q_1) (hts _ q_2) hK hP hD hS hA rfl (fun j hj => by rcases (show j = 0 ∨ j = 1 ∨ j = 2 ∨ j = 3 ∨ j = 4 ∨ j = 5 ∨ j = 6 ∨ j = 7 ∨ j = 8 ∨ j = 9 by omega) with rfl | rfl | rfl | rfl | rfl | rfl | rfl | rfl | rfl | rfl <;> rfl) (Nat.le_of_ble_eq_true rfl) (Nat.le_of_ble_eq_true rfl) dL_law_0 (fun q0 H hP hD hS => ?_)
  replace hP : va_P (dC, dI) vwCl [(q0, .inr (7, [.null, .null, .null, .null, .null, .null, .null, .null, .int 0, .int 0]))] H := hP
  replace hD : va_D (fun q : Nat => s.heap.size ≤ q) [(q0, .inr (7, [.null, .null, .null, .null, .null, .null, .null, .null, .int 0, .int 0]))] := hD
  refine lv_dup hx hb dL_law_3 rfl ?_
  have hFc := free_of hD hS hA
  refine va_callv (va_runI (As := []) (rest := [.ref q0]) ⟨hx, hb, hml, hown, hts⟩ (ci_X8 (l := l) (D := (dC, dI)) (h0 := q0) H.size) (cwI 0 hts (good_callee q_8) rfl rfl rfl (hts _ q_2) (hts _ q_6) (hts _ q_7) rfl (by decide +kernel) ⟨(Nat.le_of_ble_eq_true rfl), (Nat.le_of_ble_eq_true rfl)⟩) ⟨PreI.blind NST.blind, fun U hU hW => ⟨rfl, by rw [hU], by rw [hU]; exact hP, va_K.moved hW.alike hK, hD.weaken (fun _ _ _ _ => trivial), hNST.warm hW⟩⟩ rfl rfl hl.1 rfl (lv_room (Nat.le_of_ble_eq_true rfl)) dL_law_4 ⟨(Nat.le_of_ble_eq_true rfl), (Nat.le_of_ble_eq_true rfl)⟩) hS (fun q _ h => hFc q h) hFc (fun u t H1 locs1 ht hvm hw hB hz1 hk1 hS => ?_)
  obtain ⟨a, g, ea, hP1, hK1, hD1⟩ := hB
  rw [ht] at hP1
  have hKx := va_K.moved hvm.symm hK1
  have hD2 := hD1.weaken (B := fun q : Nat => s.heap.size ≤ q) (fun _ _ _ h => hFc _ h)
  clear hP hD hK1 hD1 hFc hk1
  generalize H1 = H at hP1 hS ⊢
  subst ea
  refine lv_astore_n (lv' := [(1, .ref (a 0)), (0, .ref b)]) hx hb dL_law_7 rfl hl (by decide) rfl (fun ls hl => ?_)
  refine va_new (ci := 8) (fs := [.int 0, .null, .null, .null, .int 0, .null, .int 0, .null, .null, .int 0, .int 0, .int 0, .null, .null, .int 0, .int 0, .null, .null, .null, .null, .null, .null, .null, .null, .long 0, .long 0, .long 0, .long 0, .long 0, .long 0, .long 0, .long 0, .int 0, .int 0, .null, .null, .null, .null, .null]) (C := RX9) (T := TX9) (N := 39) hx hb hts inlX9 tyX9 tyX9_ok hown (hts _ q_3) (hts _ q_4) (hts _ q_5) hKx hP1 hD2 hS hA rfl (fun j hj => by rcases (show j = 0 ∨ j = 1 ∨ j = 2 ∨ j = 3 ∨ j = 4 ∨ j = 5 ∨ j = 6 ∨ j = 7 ∨ j = 8 ∨ j = 9 ∨ j = 10 ∨ j = 11 ∨ j = 12 ∨ j = 13 ∨ j = 14 ∨ j = 15 ∨ j = 16 ∨ j = 17 ∨ j = 18 ∨ j = 19 ∨ j = 20 ∨ j = 21 ∨ j = 22 ∨ j = 23 ∨ j = 24 ∨ j = 25 ∨ j = 26 ∨ j = 27 ∨ j = 28 ∨ j = 29 ∨ j = 30 ∨ j = 31 ∨ j = 32 ∨ j = 33 ∨ j = 34 ∨ j = 35 ∨ j = 36 ∨ j = 37 ∨ j = 38 by omega) with rfl | rfl | rfl | rfl | rfl | rfl | rfl | rfl | rfl | rfl | rfl | rfl | rfl | rfl | rfl | rfl | rfl | rfl | rfl | rfl | rfl | rfl | rfl | rfl | rfl | rfl | rfl | rfl | rfl | rfl | rfl | rfl | rfl | rfl | rfl | rfl | rfl | rfl | rfl <;> rfl) (Nat.le_of_ble_eq_true rfl) (Nat.le_of_ble_eq_true rfl) dL_law_8 (fun q9 H hP hD hS => ?_)
  replace hP : va_P (dC, dI) vwCl (WX a g SX0 ++ [(q9, .inr (8, [.int 0, .null, .null, .null, .int 0, .null, .int 0, .null, .null, .int 0, .int 0, .int 0, .null, .null, .int 0, .int 0, .null, .null, .null, .null, .null, .null, .null, .null, .long 0, .long 0, .long 0, .long 0, .long 0, .long 0, .long 0, .long 0, .int 0, .int 0, .null, .null, .null, .null, .null]))]) H := hP
  replace hD : va_D (fun q : Nat => s.heap.size ≤ q) (WX a g SX0 ++ [(q9, .inr (8, [.int 0, .null, .null, .null, .int 0, .null, .int 0, .null, .null, .int 0, .int 0, .int 0, .null, .null, .int 0, .int 0, .null, .null, .null, .null, .null, .null, .null, .null, .long 0, .long 0, .long 0, .long 0, .long 0, .long 0, .long 0, .long 0, .int 0, .int 0, .null, .null, .null, .null, .null]))]) := hD
  refine lv_dup hx hb dL_law_11 rfl ?_
  have hFc := free_of (D_right hD) hS hA
  refine va_callv (va_runI (As := []) (rest := [.ref q9]) ⟨hx, hb, hml, hown, hts⟩ (ci_X9 (l := l) (D := (dC, dI)) (h0 := q9) H.size) (cwI 0 hts (good_callee q_97) rfl rfl rfl (hts _ q_5) (hts _ q_95) (hts _ q_96) rfl (by decide +kernel) ⟨(Nat.le_of_ble_eq_true rfl), (Nat.le_of_ble_eq_true rfl)⟩) ⟨PreI.blind (fun _ _ _ _ _ => trivial), fun U hU hW => ⟨rfl, by rw [hU], by rw [hU]; exact P_right hP, va_K.moved hW.alike hK, (D_right hD).weaken (fun _ _ _ _ => trivial), trivial⟩⟩ rfl rfl hl.1 rfl (lv_room (Nat.le_of_ble_eq_true rfl)) dL_law_12 ⟨(Nat.le_of_ble_eq_true rfl), (Nat.le_of_ble_eq_true rfl)⟩) hS (fun q _ h => hFc q h) hFc (fun u t H1 locs2 ht hvm hw hB hz1 hk1 hS => ?_)
  obtain ⟨b9, h9, eb, hP2, hK2, hD3⟩ := hB
  rw [ht] at hP2
  have hKm := va_K.moved hvm.symm hK2
  have hPP := join_right hP hD hk1 hP2
  have hDP : va_D (fun q : Nat => s.heap.size ≤ q) (WX a g SX0 ++ WM b9 h9 SM0) := by
    refine va_D.app (D_left hD) (hD3.weaken (fun _ _ _ h => hFc _ h)) (fun i j p q hp hq hpq => ?_)
    have hl2 := (P_left hP i p hp).lt
    have hin := hD3.2 j q hq
    rw [← hpq] at hin
    rcases hin with ⟨k2, e2, h2⟩ | h2
    · exact apart_LR hD hp h2 rfl
    · omega
  clear hP hD hD3 hFc hk1
  generalize H1 = H at hPP hS ⊢
  subst eb
  refine lv_astore_n (lv' := [(2, .ref (b9 0)), (1, .ref (a 0)), (0, .ref b)]) hx hb dL_law_15 rfl hl (by decide) rfl (fun ls hl => ?_)
  refine lv_iconst (v := 0) hx hb dL_law_16 (by decide) ?_
  refine lv_istore_n (lv' := [(3, .int 0), (2, .ref (b9 0)), (1, .ref (a 0)), (0, .ref b)]) hx hb dL_law_17 rfl hl (by decide) rfl (fun ls hl => ?_)
  have hLC : LC p s m meth c (dC, dI) a b9 g h9 b L xs := ⟨⟨hx, hb, hml, hown, hts⟩, hKx, hKm, fun Sx Sm => D_of_map (w := WX a g SX0 ++ WM b9 h9 SM0) (w' := WX a g Sx ++ WM b9 h9 Sm) rfl hDP, hX, hbl, hEB, hr, hlocks⟩
  exact law_loop hL hLC hst 513 0 0 ZX0 ZM0 (by decide) (by omega) (by omega) h00 H locs2 ls (by rw [em_ZX0, em_ZM0]; exact hPP) hS hl
