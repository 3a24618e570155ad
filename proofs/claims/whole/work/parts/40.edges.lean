/-! EDGES -/
def np (c : SZ) : Nat := (zi c 0).toNat
def nf (c : SZ) : Nat := (zi c 1).toNat
theorem np_i {c : SZ} (hg : Gd c) : (np c : Int) = zi c 0 := by have := hg.1; unfold np; omega
theorem nf_i {c : SZ} (hg : Gd c) : (nf c : Int) = zi c 1 := by have := hg.2.1; unfold nf; omega
theorem np_16 {c : SZ} (hg : Gd c) : np c ≤ 16 := by have := hg.1; unfold np; omega
theorem nf_24 {c : SZ} (hg : Gd c) : nf c ≤ 24 := by have := hg.2.1; unfold nf; omega
theorem Msh.eq {X c M : SZ} (hm : Msh X c) (he : MEq c M) : Msh X M := by
  obtain ⟨e0, e1, e2, e3, e4, e5, ex, ey, ez, ec, ew, ev, eb⟩ := hm
  obtain ⟨h1, h2⟩ := he
  refine ⟨?_, ?_, ?_, ?_, ?_, ?_, fun j => ?_, fun j => ?_, fun j => ?_, fun j => ?_, fun j => ?_, fun j => ?_, fun j => ?_⟩
  · rw [h1 0 (by omega)]; exact e0
  · rw [h1 1 (by omega)]; exact e1
  · rw [h1 2 (by omega)]; exact e2
  · rw [h1 3 (by omega)]; exact e3
  · rw [h1 4 (by omega)]; exact e4
  · rw [h1 5 (by omega)]; exact e5
  · rw [h2 0 _ (by omega)]; exact ex j
  · rw [h2 1 _ (by omega)]; exact ey j
  · rw [h2 2 _ (by omega)]; exact ez j
  · rw [h2 3 _ (by omega)]; exact ec j
  · rw [h2 4 _ (by omega)]; exact ew j
  · rw [h2 5 _ (by omega)]; exact ev j
  · rw [h2 6 _ (by omega)]; exact eb j
theorem Gd.eq {c M : SZ} (hg : Gd c) (he : MEq c M) : Gd M := by
  obtain ⟨h1, h2⟩ := he
  unfold Gd at *
  simp only [h1 0 (by omega), h1 1 (by omega), h1 2 (by omega), h1 3 (by omega), h1 4 (by omega), h1 5 (by omega), h2 0 _ (by omega), h2 1 _ (by omega), h2 2 _ (by omega), h2 3 _ (by omega), h2 4 _ (by omega), h2 5 _ (by omega)]
  exact hg
abbrev hc (c : SZ) (f n : Nat) : Prop := cor c f 0 = n ∨ cor c f 1 = n ∨ cor c f 2 = n
theorem hcP_hc {c : SZ} (hg : Gd c) (f n : Nat) : hcP c (f : Int) (n : Int) ↔ hc c f n := by
  have c0 := cor_int hg f 0
  have c1 := cor_int hg f 1
  have c2 := cor_int hg f 2
  unfold hcP
  rw [show (3 * (f : Int)).toNat = 3 * f + 0 by omega, show (3 * (f : Int) + 1).toNat = 3 * f + 1 by omega, show (3 * (f : Int) + 2).toNat = 3 * f + 2 by omega, ← c0, ← c1, ← c2]
  unfold hc
  omega
theorem X4_hc1 {c X : SZ} (hm : Msh X c) (hg : Gd c) {f n : Nat} (hf : f < 24) (h : hc c f n) : f_X4_hasCorner X f n = some (X, 1) :=
  X4_hasCorner_1 hm.2.2.2.2.2.2.2.2.2.1 hg.2.2.2.2.2.1 (by omega) (by omega) ((hcP_hc hg f n).mpr h)
theorem X4_hc0 {c X : SZ} (hm : Msh X c) (hg : Gd c) {f n : Nat} (hf : f < 24) (hn : n < 16) (h : ¬ hc c f n) : f_X4_hasCorner X f n = some (X, 0) :=
  X4_hasCorner_0 hm.2.2.2.2.2.2.2.2.2.1 hg.2.2.2.2.2.1 (by omega) (by omega) (by omega) (by omega) (fun q => h ((hcP_hc hg f n).mp q))
theorem hcP_eq {c M : SZ} (he : MEq c M) {f n : Int} (h : hcP c f n) : hcP M f n := by
  unfold hcP at *
  rw [he.2 3 _ (by omega), he.2 3 _ (by omega), he.2 3 _ (by omega)]; exact h
theorem hcP_eq' {c M : SZ} (he : MEq c M) {f n : Int} (h : hcP M f n) : hcP c f n := by
  unfold hcP at *
  rw [he.2 3 _ (by omega), he.2 3 _ (by omega), he.2 3 _ (by omega)] at h; exact h
theorem X9_hc1 {c M : SZ} (hg : Gd c) (he : MEq c M) {f n : Nat} (hf : f < 24) (h : hc c f n) : f_X9_hasCorner M f n = some (M, 1) :=
  X9_hasCorner_1 (hg.eq he).2.2.2.2.2.1 (by omega) (by omega) (hcP_eq he ((hcP_hc hg f n).mpr h))
theorem X9_hc0 {c M : SZ} (hg : Gd c) (he : MEq c M) {f n : Nat} (hf : f < 24) (hn : n < 16) (h : ¬ hc c f n) : f_X9_hasCorner M f n = some (M, 0) :=
  X9_hasCorner_0 (hg.eq he).2.2.2.2.2.1 (by omega) (by omega) (by omega) (by omega) (fun q => h ((hcP_hc hg f n).mp (hcP_eq' he q)))
abbrev cm (c : SZ) (p q f : Nat) : Prop := hc c f p ∧ hc c f q
/-- the faces with both corners, from a number on -/
def cfl (c : SZ) (p q : Nat) : Nat → Nat → List Nat
  | _, 0 => []
  | f, k + 1 => if cm c p q f then f :: cfl c p q (f + 1) k else cfl c p q (f + 1) k
theorem cfl_1 {c : SZ} {p q f k : Nat} (h : cm c p q f) : cfl c p q f (k + 1) = f :: cfl c p q (f + 1) k := by rw [cfl, if_pos h]
theorem cfl_0 {c : SZ} {p q f k : Nat} (h : ¬ cm c p q f) : cfl c p q f (k + 1) = cfl c p q (f + 1) k := by rw [cfl, if_neg h]
theorem cfl_tl {c : SZ} {p q : Nat} : ∀ (k f x : Nat) (t : List Nat), cfl c p q f k = x :: t → f ≤ x ∧ x < f + k ∧ cm c p q x ∧ t = cfl c p q (x + 1) (f + k - (x + 1))
  | 0, f, x, t, h => by simp [cfl] at h
  | k + 1, f, x, t, h => by
    by_cases hx : cm c p q f
    · rw [cfl_1 hx] at h
      obtain ⟨h1, h2⟩ := List.cons.inj h
      subst h1
      refine ⟨by omega, by omega, hx, ?_⟩
      rw [← h2]
      congr 1
      omega
    · rw [cfl_0 hx] at h
      obtain ⟨h1, h2, h3, h4⟩ := cfl_tl k (f + 1) x t h
      refine ⟨by omega, by omega, h3, ?_⟩
      rw [h4]
      congr 1
      omega
theorem cfl_ln {c : SZ} {p q : Nat} : ∀ (k f : Nat), (cfl c p q f k).length ≤ k
  | 0, f => by simp [cfl]
  | k + 1, f => by
    have := cfl_ln (c := c) (p := p) (q := q) k (f + 1)
    rw [cfl]; split
    · simp; omega
    · omega
def CF (c : SZ) (p q : Nat) : List Nat := cfl c p q 0 (nf c)
abbrev wd (c : SZ) (p q : Nat) : Prop := ∃ w : Nat, w < (zi c 2).toNat ∧ ((za c 4 w = p ∧ za c 5 w = q) ∨ (za c 4 w = q ∧ za c 5 w = p))
def isEb (c : SZ) (p q : Nat) : Bool := decide ((CF c p q).length ≠ 0 ∨ wd c p q)
abbrev isE (c : SZ) (p q : Nat) : Prop := isEb c p q = true
theorem isE_iff {c : SZ} {p q : Nat} : isE c p q ↔ ((CF c p q).length ≠ 0 ∨ wd c p q) := decide_eq_true_iff
theorem wd_X {c X : SZ} (hm : Msh X c) (hg : Gd c) {p q : Nat} (hp : p < 16) (hq : q < 16) : ∃ r : Int, f_X4_hasWire X p q = some (X, r) ∧ f_X9_isWire c p q = some (c, r) ∧ ((r = 0 ∧ ¬ wd c p q) ∨ (r = 1 ∧ wd c p q)) := by
  have g2 := hg.2.2.1
  obtain ⟨r, h1, h2, h3⟩ := hasWire_eq hm hg (p := p) (q := q) ⟨by omega, by omega⟩ ⟨by omega, by omega⟩
  refine ⟨r, h1, h2, ?_⟩
  rcases h3 with ⟨h3, h4⟩ | ⟨h3, w, w1, w2, w3⟩
  · refine Or.inl ⟨h3, ?_⟩
    rintro ⟨w, w1, w2⟩
    exact h4 w (by omega) (by omega) w2
  · exact Or.inr ⟨h3, w.toNat, by omega, w3⟩
theorem wd_M {c M X : SZ} (hm : Msh X c) (hg : Gd c) (he : MEq c M) {p q : Nat} (hp : p < 16) (hq : q < 16) : ∃ r : Int, f_X9_isWire M p q = some (M, r) ∧ ((r = 0 ∧ ¬ wd c p q) ∨ (r = 1 ∧ wd c p q)) := by
  obtain ⟨r, h1, h2, h3⟩ := wd_X (hm.eq he) (hg.eq he) hp hq
  refine ⟨r, h2, ?_⟩
  unfold wd at h3
  simp only [he.1 2 (by omega), he.2 4 _ (by omega), he.2 5 _ (by omega)] at h3
  exact h3
/-- edges in rows: how many, the one end, the other -/
abbrev ER : Type := Nat × (Nat → Nat) × (Nat → Nat)
def psh (s : ER) (p q : Nat) : ER := (s.1 + 1, (fun e => if e = s.1 then p else s.2.1 e), (fun e => if e = s.1 then q else s.2.2 e))
def rowS (c : SZ) (p : Nat) : Nat → Nat → ER → ER
  | _, 0, s => s
  | q, k + 1, s => rowS c p (q + 1) k (if isE c p q then psh s p q else s)
def allS (c : SZ) : Nat → Nat → ER → ER
  | _, 0, s => s
  | p, k + 1, s => allS c (p + 1) k (rowS c p (p + 1) k s)
def ES (c : SZ) : ER := allS c 0 (np c) (0, fun _ => 0, fun _ => 0)
/-- what is known of the rows before the pair p, q -/
def Ord (c : SZ) (s : ER) (p q : Nat) : Prop := (∀ e, e < s.1 → s.2.1 e < s.2.2 e ∧ s.2.2 e < np c ∧ isE c (s.2.1 e) (s.2.2 e) ∧ (s.2.1 e < p ∨ (s.2.1 e = p ∧ s.2.2 e < q))) ∧ (∀ e e2, e < e2 → e2 < s.1 → s.2.1 e < s.2.1 e2 ∨ (s.2.1 e = s.2.1 e2 ∧ s.2.2 e < s.2.2 e2))
theorem ord_0 (c : SZ) (p q : Nat) : Ord c (0, fun _ => 0, fun _ => 0) p q := ⟨fun e h => absurd h (Nat.not_lt_zero _), fun e e2 h h2 => absurd h2 (Nat.not_lt_zero _)⟩
theorem ord_up {c : SZ} {s : ER} {p q p2 q2 : Nat} (h : Ord c s p q) (hl : p < p2 ∨ (p = p2 ∧ q ≤ q2)) : Ord c s p2 q2 := ⟨fun e he => by
  obtain ⟨h1, h2, h3, h4⟩ := h.1 e he
  exact ⟨h1, h2, h3, by omega⟩, h.2⟩
theorem ord_psh {c : SZ} {s : ER} {p q : Nat} (h : Ord c s p q) (h1 : p < q) (h2 : q < np c) (h3 : isE c p q) : Ord c (psh s p q) p (q + 1) := by
  refine ⟨fun e he => ?_, fun e e2 he he2 => ?_⟩
  · by_cases hh : e = s.1
    · simp only [psh, if_pos hh]
      exact ⟨h1, h2, h3, Or.inr ⟨trivial, by omega⟩⟩
    · simp only [psh, if_neg hh]
      obtain ⟨a1, a2, a3, a4⟩ := h.1 e (by simp only [psh] at he; omega)
      exact ⟨a1, a2, a3, by omega⟩
  · have he3 : e2 < s.1 + 1 := he2
    by_cases hh : e2 = s.1
    · simp only [psh, if_pos hh, if_neg (show ¬ e = s.1 by omega)]
      exact (h.1 e (by omega)).2.2.2
    · simp only [psh, if_neg hh, if_neg (show ¬ e = s.1 by omega)]
      exact h.2 e e2 he (by omega)
theorem pig : ∀ (n m : Nat) (g : Nat → Nat), (∀ i, i < m → g i < n) → (∀ i j, i < m → j < m → g i = g j → i = j) → m ≤ n
  | 0, m, g, h1, h2 => by
    by_cases hm : m = 0
    · omega
    · exact absurd (h1 0 (by omega)) (by omega)
  | n + 1, m, g, h1, h2 => by
    by_cases hx : ∃ i, i < m ∧ g i = n
    · obtain ⟨i, i1, i2⟩ := hx
      have := pig n (m - 1) (fun j => if j = i then g (m - 1) else g j) (by
        intro j hj
        by_cases hji : j = i
        · simp only [if_pos hji]
          have := h1 (m - 1) (by omega)
          have : g (m - 1) ≠ n := fun e => by
            have := h2 (m - 1) i (by omega) i1 (by rw [e, i2])
            omega
          omega
        · simp only [if_neg hji]
          have := h1 j (by omega)
          have : g j ≠ n := fun e => hji (h2 j i (by omega) i1 (by rw [e, i2]))
          omega) (by
        intro j k hj hk he
        by_cases hji : j = i
        · by_cases hki : k = i
          · omega
          · simp only [if_pos hji, if_neg hki] at he
            have := h2 (m - 1) k (by omega) (by omega) he
            omega
        · by_cases hki : k = i
          · simp only [if_neg hji, if_pos hki] at he
            have := h2 j (m - 1) (by omega) (by omega) he
            omega
          · simp only [if_neg hji, if_neg hki] at he
            exact h2 j k (by omega) (by omega) he)
      omega
    · have := pig n m g (fun i hi => by
        have := h1 i hi
        have : g i ≠ n := fun e => hx ⟨i, hi, e⟩
        omega) h2
      omega
/-- a number under 80 that tells an edge's ends -/
theorem code_ex {c : SZ} (hg : Gd c) {p q : Nat} (hpq : p < q) (h : isE c p q) : ∃ k, k < 80 ∧ ((k < 72 ∧ ((cor c (k / 3) (k % 3) = p ∧ cor c (k / 3) ((k % 3 + 1) % 3) = q) ∨ (cor c (k / 3) (k % 3) = q ∧ cor c (k / 3) ((k % 3 + 1) % 3) = p))) ∨ (72 ≤ k ∧ ((za c 4 (k - 72) = p ∧ za c 5 (k - 72) = q) ∨ (za c 4 (k - 72) = q ∧ za c 5 (k - 72) = p)))) := by
  have g1 := nf_24 hg
  have g2 := hg.2.2.1
  rcases isE_iff.mp h with h | ⟨w, w1, w2⟩
  · cases hl : CF c p q with
    | nil => rw [hl] at h; simp at h
    | cons f t =>
      obtain ⟨h1, h2, ⟨h3, h4⟩, _⟩ := cfl_tl _ _ _ _ hl
      have key : ∀ i, i < 3 → ((cor c f i = p ∧ cor c f ((i + 1) % 3) = q) ∨ (cor c f i = q ∧ cor c f ((i + 1) % 3) = p)) → ∃ k, k < 80 ∧ ((k < 72 ∧ ((cor c (k / 3) (k % 3) = p ∧ cor c (k / 3) ((k % 3 + 1) % 3) = q) ∨ (cor c (k / 3) (k % 3) = q ∧ cor c (k / 3) ((k % 3 + 1) % 3) = p))) ∨ (72 ≤ k ∧ ((za c 4 (k - 72) = p ∧ za c 5 (k - 72) = q) ∨ (za c 4 (k - 72) = q ∧ za c 5 (k - 72) = p)))) := by
        intro i hi hh
        refine ⟨3 * f + i, by omega, Or.inl ⟨by omega, ?_⟩⟩
        rw [show (3 * f + i) / 3 = f by omega, show (3 * f + i) % 3 = i by omega]
        exact hh
      have k0 := key 0 (by omega)
      have k1 := key 1 (by omega)
      have k2 := key 2 (by omega)
      simp only [show (0 + 1) % 3 = 1 by omega, show (1 + 1) % 3 = 2 by omega, show (2 + 1) % 3 = 0 by omega] at k0 k1 k2
      rcases h3 with h3 | h3 | h3 <;> rcases h4 with h4 | h4 | h4
      · omega
      · exact k0 (Or.inl ⟨h3, h4⟩)
      · exact k2 (Or.inr ⟨h4, h3⟩)
      · exact k0 (Or.inr ⟨h4, h3⟩)
      · omega
      · exact k1 (Or.inl ⟨h3, h4⟩)
      · exact k2 (Or.inl ⟨h3, h4⟩)
      · exact k1 (Or.inr ⟨h4, h3⟩)
      · omega
  · refine ⟨72 + w, by omega, Or.inr ⟨by omega, ?_⟩⟩
    rw [show 72 + w - 72 = w by omega]
    exact w2
theorem ord_80 {c : SZ} (hg : Gd c) {s : ER} {p q : Nat} (h : Ord c s p q) : s.1 ≤ 80 := by
  have hx : ∀ e, ∃ k, e < s.1 → k < 80 ∧ ((k < 72 ∧ ((cor c (k / 3) (k % 3) = s.2.1 e ∧ cor c (k / 3) ((k % 3 + 1) % 3) = s.2.2 e) ∨ (cor c (k / 3) (k % 3) = s.2.2 e ∧ cor c (k / 3) ((k % 3 + 1) % 3) = s.2.1 e))) ∨ (72 ≤ k ∧ ((za c 4 (k - 72) = s.2.1 e ∧ za c 5 (k - 72) = s.2.2 e) ∨ (za c 4 (k - 72) = s.2.2 e ∧ za c 5 (k - 72) = s.2.1 e)))) := by
    intro e
    by_cases he : e < s.1
    · obtain ⟨h1, h2, h3, h4⟩ := h.1 e he
      obtain ⟨k, hk⟩ := code_ex hg h1 h3
      exact ⟨k, fun _ => hk⟩
    · exact ⟨0, fun hh => absurd hh he⟩
  obtain ⟨g, hgg⟩ := Classical.axiomOfChoice hx
  refine pig 80 s.1 g (fun i hi => (hgg i hi).1) ?_
  intro i j hi hj he
  have a1 := hgg i hi
  have a2 := hgg j hj
  rw [he] at a1
  have o1 := (h.1 i hi).1
  have o2 := (h.1 j hj).1
  have same : s.2.1 i = s.2.1 j ∧ s.2.2 i = s.2.2 j := by
    rcases a1.2 with ⟨x1, x2⟩ | ⟨x1, x2⟩ <;> rcases a2.2 with ⟨y1, y2⟩ | ⟨y1, y2⟩ <;> omega
  rcases Nat.lt_trichotomy i j with l | l | l
  · have := h.2 i j l hj
    omega
  · exact l
  · have := h.2 j i l hi
    omega
theorem row_ord {c : SZ} {p : Nat} : ∀ (k q : Nat) (s : ER), p < q → q + k = np c → Ord c s p q → Ord c (rowS c p q k s) p (np c)
  | 0, q, s, h1, h2, h3 => by rw [rowS]; exact ord_up h3 (Or.inr ⟨rfl, by omega⟩)
  | k + 1, q, s, h1, h2, h3 => by
    rw [rowS]
    refine row_ord k (q + 1) _ (by omega) (by omega) ?_
    split
    · rename_i hh; exact ord_psh h3 h1 (by omega) hh
    · exact ord_up h3 (Or.inr ⟨rfl, by omega⟩)
theorem all_ord {c : SZ} : ∀ (k p : Nat) (s : ER), p + k = np c → Ord c s p 0 → Ord c (allS c p k s) (np c) 0
  | 0, p, s, h2, h3 => by rw [allS]; exact (show p = np c by omega) ▸ h3
  | k + 1, p, s, h2, h3 => by
    rw [allS]
    refine all_ord k (p + 1) _ (by omega) ?_
    exact ord_up (row_ord k (p + 1) s (by omega) (by omega) (ord_up h3 (Or.inr ⟨rfl, by omega⟩))) (Or.inl (by omega))
theorem es_ord (c : SZ) : Ord c (ES c) (np c) 0 := all_ord (np c) 0 _ (by omega) (ord_0 c 0 0)
theorem es_80 {c : SZ} (hg : Gd c) : (ES c).1 ≤ 80 := ord_80 hg (es_ord c)
