/-! the pen: what is free, what is laid, the strokes -/
noncomputable def pcs (c : SZ) (e : Nat) : Nat := (CE c e).1 - 1
noncomputable def fr0 (c : SZ) (e k : Nat) : Bool := decide (e < (ES c).1 ∧ k < pcs c e ∧ QE c e k = 0 ∧ SE c e ≠ 2)
/-- free; (laid, edges, pieces, ways); (strokes, where) -/
abbrev AS : Type := (Nat → Nat → Bool) × (Nat × (Nat → Nat) × (Nat → Nat) × (Nat → Nat)) × (Nat × (Nat → Nat))
abbrev ald (A : AS) : Nat := A.2.1.1
abbrev ale (A : AS) : Nat → Nat := A.2.1.2.1
abbrev alp (A : AS) : Nat → Nat := A.2.1.2.2.1
abbrev alo (A : AS) : Nat → Nat := A.2.1.2.2.2
abbrev asn (A : AS) : Nat := A.2.2.1
abbrev asa (A : AS) : Nat → Nat := A.2.2.2
def lay (A : AS) (e k o : Nat) : AS := ((fun e2 k2 => A.1 e2 k2 && !(decide (e2 = e) && decide (k2 = k))), (ald A + 1, (fun i => if i = ald A then e else ale A i), (fun i => if i = ald A then k else alp A i), (fun i => if i = ald A then o else alo A i)), A.2.2)
def beg (A : AS) : AS := (A.1, A.2.1, (asn A + 1, fun i => if i = asn A then ald A else asa A i))
noncomputable def ep (c : SZ) (e k o : Nat) : Int := if o = 0 then (if k = 0 then ((ES c).2.1 e : Int) else -9) else (if k + 1 = pcs c e then ((ES c).2.2 e : Int) else -9)
noncomputable def nx (c : SZ) (A : AS) (pt : Int) : Nat → Nat → Option (Nat × Nat × Nat)
  | _, 0 => none
  | i, m + 1 => if ((ES c).2.1 i : Int) = pt ∧ A.1 i 0 = true then some (i, 0, 1) else if ((ES c).2.2 i : Int) = pt ∧ A.1 i (pcs c i - 1) = true then some (i, pcs c i - 1, 0) else nx c A pt (i + 1) m
noncomputable def go (c : SZ) : Nat → AS → Int → AS
  | 0, A, _ => A
  | m + 1, A, pt => if pt = -9 then A else match nx c A pt 0 (ES c).1 with
    | none => A
    | some x => go c m (lay A x.1 x.2.1 x.2.2) (ep c x.1 x.2.1 x.2.2)
noncomputable def stp (c : SZ) (A : AS) (e k : Nat) : AS := if A.1 e k = true then go c 2000 (lay (beg A) e k 1) (ep c e k 1) else A
noncomputable def skr (c : SZ) (e : Nat) : Nat → Nat → AS → AS
  | _, 0, A => A
  | k, m + 1, A => skr c e (k + 1) m (stp c A e k)
noncomputable def skl (c : SZ) : Nat → Nat → AS → AS
  | _, 0, A => A
  | e, m + 1, A => skl c (e + 1) m (skr c e 0 (pcs c e) A)
noncomputable def A0 (c : SZ) : AS := (fr0 c, (0, (fun _ => 0), (fun _ => 0), (fun _ => 0)), (0, fun _ => 0))
noncomputable def AK (c : SZ) : AS := skl c 0 (ES c).1 (A0 c)
def fc (A : AS) : Nat := tot (fun e => cnt (A.1 e) 50) 80
def Inv (c : SZ) (A : AS) : Prop := (∀ e k, A.1 e k = true → fr0 c e k = true) ∧ ald A + fc A ≤ 2000 ∧ asn A ≤ ald A ∧ (∀ i, i < ald A → ale A i < (ES c).1 ∧ alp A i < pcs c (ale A i) ∧ alo A i ≤ 1) ∧ (∀ i, i < asn A → asa A i < ald A ∧ alo A (asa A i) = 1) ∧ (∀ i, i + 1 < asn A → asa A i < asa A (i + 1))
theorem fr0_e {c : SZ} (hg : Gd c) {e k : Nat} (h : fr0 c e k = true) : e < (ES c).1 ∧ e < 80 ∧ k < pcs c e ∧ k < 49 ∧ QE c e k = 0 ∧ SE c e ≠ 2 := by
  unfold fr0 at h
  have h2 := of_decide_eq_true h
  have h80 := es_80 hg
  have hln := CE_ln hg e
  have : pcs c e = (CE c e).1 - 1 := rfl
  exact ⟨h2.1, by omega, h2.2.1, by omega, h2.2.2.1, h2.2.2.2⟩
theorem lay_fc {c : SZ} (hg : Gd c) {A : AS} (h : ∀ e k, A.1 e k = true → fr0 c e k = true) {e k : Nat} (o : Nat) (hf : A.1 e k = true) : fc (lay A e k o) + 1 = fc A := by
  obtain ⟨f1, f2, f3, f4, _⟩ := fr0_e hg (h e k hf)
  unfold fc
  refine tot_rm (e := e) 80 f2 ?_ ?_
  · refine cnt_rm (k := k) 50 (by omega) hf ?_ ?_
    · simp [lay]
    · intro j hj; simp [lay, hj]
  · intro j hj
    refine cnt_cg 50 (fun i _ => ?_)
    simp [lay, hj]
theorem lay_inv {c : SZ} (hg : Gd c) {A : AS} (h : Inv c A) {e k o : Nat} (hf : A.1 e k = true) (ho : o ≤ 1) : Inv c (lay A e k o) := by
  obtain ⟨h1, h2, h3, h4, h5, h6⟩ := h
  obtain ⟨f1, f2, f3, f4, _⟩ := fr0_e hg (h1 e k hf)
  have hfc := lay_fc hg h1 o hf
  refine ⟨fun e2 k2 hh => ?_, ?_, ?_, fun i hi => ?_, fun i hi => ?_, h6⟩
  · simp only [lay, Bool.and_eq_true] at hh
    exact h1 e2 k2 hh.1
  · show ald A + 1 + fc (lay A e k o) ≤ 2000
    omega
  · show asn A ≤ ald A + 1
    omega
  · have hi2 : i < ald A + 1 := hi
    show (if i = ald A then e else ale A i) < (ES c).1 ∧ (if i = ald A then k else alp A i) < pcs c (if i = ald A then e else ale A i) ∧ (if i = ald A then o else alo A i) ≤ 1
    by_cases hh : i = ald A
    · rw [if_pos hh, if_pos hh, if_pos hh]; exact ⟨f1, f3, ho⟩
    · rw [if_neg hh, if_neg hh, if_neg hh]; exact h4 i (by omega)
  · have hi2 : i < asn A := hi
    have := h5 i hi2
    refine ⟨show asa A i < ald A + 1 by omega, ?_⟩
    show (if asa A i = ald A then o else alo A (asa A i)) = 1
    rw [if_neg (by omega)]; exact this.2
theorem beg_inv {c : SZ} (hg : Gd c) {A : AS} (h : Inv c A) {e k : Nat} (hf : A.1 e k = true) : Inv c (lay (beg A) e k 1) := by
  obtain ⟨h1, h2, h3, h4, h5, h6⟩ := h
  obtain ⟨f1, f2, f3, f4, _⟩ := fr0_e hg (h1 e k hf)
  have hfc : fc (lay (beg A) e k 1) + 1 = fc A := lay_fc hg (A := beg A) h1 1 hf
  refine ⟨fun e2 k2 hh => ?_, ?_, ?_, fun i hi => ?_, fun i hi => ?_, fun i hi => ?_⟩
  · simp only [lay, beg, Bool.and_eq_true] at hh
    exact h1 e2 k2 hh.1
  · show ald A + 1 + fc (lay (beg A) e k 1) ≤ 2000
    omega
  · show asn A + 1 ≤ ald A + 1
    omega
  · have hi2 : i < ald A + 1 := hi
    show (if i = ald A then e else ale A i) < (ES c).1 ∧ (if i = ald A then k else alp A i) < pcs c (if i = ald A then e else ale A i) ∧ (if i = ald A then 1 else alo A i) ≤ 1
    by_cases hh : i = ald A
    · rw [if_pos hh, if_pos hh, if_pos hh]; exact ⟨f1, f3, Nat.le_refl _⟩
    · rw [if_neg hh, if_neg hh, if_neg hh]; exact h4 i (by omega)
  · have hi2 : i < asn A + 1 := hi
    show (if i = asn A then ald A else asa A i) < ald A + 1 ∧ (if (if i = asn A then ald A else asa A i) = ald A then 1 else alo A (if i = asn A then ald A else asa A i)) = 1
    by_cases hh : i = asn A
    · rw [if_pos hh, if_pos rfl]; exact ⟨by omega, rfl⟩
    · have := h5 i (by omega)
      rw [if_neg hh, if_neg (by omega)]; exact ⟨by omega, this.2⟩
  · have hi2 : i + 1 < asn A + 1 := hi
    show (if i = asn A then ald A else asa A i) < (if i + 1 = asn A then ald A else asa A (i + 1))
    rw [if_neg (by omega)]
    by_cases hh : i + 1 = asn A
    · rw [if_pos hh]; exact (h5 i (by omega)).1
    · rw [if_neg hh]; exact h6 i (by omega)
theorem nx_some {c : SZ} {A : AS} {pt : Int} : ∀ (m i : Nat) (x : Nat × Nat × Nat), nx c A pt i m = some x → A.1 x.1 x.2.1 = true ∧ x.2.2 ≤ 1 ∧ x.1 < i + m
  | 0, i, x, h => by simp [nx] at h
  | m + 1, i, x, h => by
    rw [nx] at h
    split at h
    · rename_i hh
      have e := Option.some.inj h
      rw [← e]; exact ⟨hh.2, Nat.le_refl _, by simp only []; omega⟩
    · split at h
      · rename_i hh
        have e := Option.some.inj h
        rw [← e]; exact ⟨hh.2, Nat.zero_le _, by simp only []; omega⟩
      · have := nx_some m (i + 1) x h
        exact ⟨this.1, this.2.1, by omega⟩
theorem go_inv {c : SZ} (hg : Gd c) : ∀ (m : Nat) (A : AS) (pt : Int), Inv c A → Inv c (go c m A pt)
  | 0, A, pt, h => h
  | m + 1, A, pt, h => by
    rw [go]
    split
    · exact h
    · split
      · exact h
      · rename_i x hx
        have := nx_some _ _ _ hx
        exact go_inv hg m _ _ (lay_inv hg h this.1 this.2.1)
theorem stp_inv {c : SZ} (hg : Gd c) {A : AS} (h : Inv c A) (e k : Nat) : Inv c (stp c A e k) := by
  unfold stp
  split
  · rename_i hh; exact go_inv hg _ _ _ (beg_inv hg h hh)
  · exact h
theorem skr_inv {c : SZ} (hg : Gd c) {e : Nat} : ∀ (m k : Nat) (A : AS), Inv c A → Inv c (skr c e k m A)
  | 0, k, A, h => h
  | m + 1, k, A, h => skr_inv hg m (k + 1) _ (stp_inv hg h e k)
theorem skl_inv {c : SZ} (hg : Gd c) : ∀ (m e : Nat) (A : AS), Inv c A → Inv c (skl c e m A)
  | 0, e, A, h => h
  | m + 1, e, A, h => skl_inv hg m (e + 1) _ (skr_inv hg _ _ _ h)
/-- no more than 25 pieces of an edge are seen -/
theorem vis25 {c : SZ} (hg : Gd c) (p q : Nat) : cnt (fun k => decide (k + 1 < (CS c p q).1 ∧ Q c p q k = 0)) 50 ≤ 25 := by
  have n2 := nf_24 hg
  have hl : LowS (CS c p q) := cuts_low hg p q (nf c)
  have hs : SrtS (CS c p q) := cuts_srt hg p q (nf c)
  have inj : ∀ a b, a < (CS c p q).1 → b < (CS c p q).1 → (CS c p q).2 a = (CS c p q).2 b → a = b := by
    intro a b ha hb h
    rcases Nat.lt_trichotomy a b with l | l | l
    · have := hs a b l hb; rw [h] at this; exact absurd this flo_ir
    · exact l
    · have := hs b a l ha; rw [h] at this; exact absurd this flo_ir
  have q0 : ∀ k f, Q c p q k = 0 → f < nf c → ¬ Cov c p q f k := by
    intro k f hQ hf hC
    have : ∀ m, m ≤ nf c → f < m → 0 < qn c p q k m := by
      intro m
      induction m with
      | zero => intro _ h; omega
      | succ m ih =>
        intro h1 h2
        rw [qn]
        by_cases hm : f = m
        · rw [← hm, covn_1 hC]; omega
        · have := ih (by omega) (by omega); omega
    have := this (nf c) (Nat.le_refl _) hf
    unfold Q at hQ
    omega
  have key : ∀ k, ∃ h, (k + 1 < (CS c p q).1 ∧ Q c p q k = 0) → h < 25 ∧ ((k = 0 ∧ h = 24) ∨ (0 < k ∧ h < nf c ∧ (CS c p q).2 k = (Eu c p q h, Ed c p q h))) := by
    intro k
    by_cases hk : k + 1 < (CS c p q).1 ∧ Q c p q k = 0
    · by_cases k0 : k = 0
      · exact ⟨24, fun _ => ⟨by omega, Or.inl ⟨k0, rfl⟩⟩⟩
      · rcases cuts_src (c := c) p q (nf c) k (by change k < (CS c p q).1; omega) with h | h | ⟨f, f1, f2, f3⟩
        · have h' : (CS c p q).2 k = (0, 1) := h
          have l := hs 0 k (by omega) (by omega)
          have l0 := (hl 0 (by omega)).1
          rw [h'] at l
          unfold flo at l
          simp only [] at l
          have := l0.1
          omega
        · have h' : (CS c p q).2 k = (1, 1) := h
          have l := hs k (k + 1) (by omega) (by omega)
          have le1 : ∀ i, i < (CS c p q).1 → ((CS c p q).2 i).1 ≤ ((CS c p q).2 i).2 := by
            intro i hi
            have nn : ∀ u d, fr u d → u ≤ d → ru u d ≤ rd u d := by
              intro u d hf hle
              have e1 := gd_u hf
              have e2 := gd_d hf
              have e3 := gd_pos hf
              by_cases hlt : ru u d ≤ rd u d
              · exact hlt
              · have := Int.mul_lt_mul_of_pos_right (show rd u d < ru u d by omega) e3
                omega
            rcases cuts_src (c := c) p q (nf c) i hi with h | h | ⟨f, f1, f2, f3⟩
            · have h' : (CS c p q).2 i = (0, 1) := h
              rw [h']; decide
            · have h' : (CS c p q).2 i = (1, 1) := h
              rw [h']; decide
            · rcases f3 with h | h
              · have h' : (CS c p q).2 i = _ := h
                rw [h']
                exact nn _ _ (Bg_fr hg p q f 4).1 (Bg_fr hg p q f 4).2
              · have h' : (CS c p q).2 i = _ := h
                rw [h']
                exact nn _ _ (En_fr hg p q f 4).1 (En_fr hg p q f 4).2
          have := le1 (k + 1) hk.1
          rw [h'] at l
          unfold flo at l
          simp only [] at l
          omega
        · rcases f3 with h | h
          · have h' : (CS c p q).2 k = (Bu c p q f, Bd c p q f) := h
            obtain ⟨i0, j0, ij, hj, h2, h4, hcov⟩ := cov_ij hg f1 f2
            have : k = i0 := inj k i0 (by omega) (by omega) (by rw [h', h2])
            exact absurd ((hcov k hk.1).mpr (by omega)) (q0 k f hk.2 f1)
          · exact ⟨f, fun _ => ⟨by omega, Or.inr ⟨by omega, f1, h⟩⟩⟩
    · exact ⟨0, fun h => absurd h hk⟩
  obtain ⟨h, hh⟩ := Classical.axiomOfChoice key
  refine cnt_inj 25 _ 50 h (fun j _ hj => (hh j (of_decide_eq_true hj)).1) ?_
  intro i j _ _ hi hj he
  have a := hh i (of_decide_eq_true hi)
  have b := hh j (of_decide_eq_true hj)
  have ai := (of_decide_eq_true hi).1
  have bj := (of_decide_eq_true hj).1
  rw [he] at a
  rcases a.2 with ⟨a1, a2⟩ | ⟨a1, a2, a3⟩ <;> rcases b.2 with ⟨b1, b2⟩ | ⟨b1, b2, b3⟩
  · omega
  · omega
  · omega
  · exact inj i j (by omega) (by omega) (by rw [a3, b3])
theorem cnt_mono {P R : Nat → Bool} : ∀ n, (∀ j, P j = true → R j = true) → cnt P n ≤ cnt R n
  | 0, _ => Nat.le_refl _
  | n + 1, h => by
    have := cnt_mono (P := P) (R := R) n h
    rw [cnt, cnt]
    cases hp : P n with
    | false => simp; omega
    | true => rw [h n hp]; simp; omega
theorem A0_inv {c : SZ} (hg : Gd c) : Inv c (A0 c) := by
  refine ⟨fun e k h => h, ?_, Nat.le_refl _, fun i hi => absurd hi (Nat.not_lt_zero _), fun i hi => absurd hi (Nat.not_lt_zero _), fun i hi => absurd hi (Nat.not_lt_zero _)⟩
  show 0 + tot (fun e => cnt (fr0 c e) 50) 80 ≤ 2000
  have := tot_le (F := fun e => cnt (fr0 c e) 50) (b := 25) 80 (fun e he => by
    refine Nat.le_trans (cnt_mono 50 (fun k hk => ?_)) (vis25 hg ((ES c).2.1 e) ((ES c).2.2 e))
    obtain ⟨f1, f2, f3, f4, f5, _⟩ := fr0_e hg hk
    have hln := CE_ln hg e
    have h1 : pcs c e = (CS c ((ES c).2.1 e) ((ES c).2.2 e)).1 - 1 := rfl
    exact decide_eq_true ⟨by omega, f5⟩)
  omega
theorem AK_inv {c : SZ} (hg : Gd c) : Inv c (AK c) := skl_inv hg _ _ _ (A0_inv hg)
theorem fc_0 {c : SZ} (hg : Gd c) {A : AS} (h : Inv c A) (h0 : fc A = 0) (e k : Nat) : A.1 e k = false := by
  cases hf : A.1 e k with
  | false => rfl
  | true =>
    obtain ⟨f1, f2, f3, f4, _⟩ := fr0_e hg (h.1 e k hf)
    have := cnt_0 50 (tot_0 80 h0 e f2) k (by omega)
    rw [this] at hf
    exact hf.symm
theorem nx_none {c : SZ} {A : AS} {pt : Int} (h : ∀ e k, A.1 e k = false) : ∀ m i, nx c A pt i m = none
  | 0, i => rfl
  | m + 1, i => by rw [nx, if_neg (by rw [h]; simp), if_neg (by rw [h]; simp)]; exact nx_none h m (i + 1)
