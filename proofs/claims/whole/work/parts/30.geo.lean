/-! GEOMETRY of a mesh c (its numbers lie as the reference has them) -/
def vol (a b c d e f g h i : Int) : Int := a * (e * i - f * h) + b * (f * g - d * i) + c * (d * h - e * g)
/-- the turn of three points -/
def tn (c : SZ) (i j k : Nat) : Int := vol (za c 0 j - za c 0 i) (za c 1 j - za c 1 i) (za c 2 j - za c 2 i) (za c 0 k - za c 0 i) (za c 1 k - za c 1 i) (za c 2 k - za c 2 i) (zi c 3) (zi c 4) (zi c 5)
def sv (c : SZ) (i j : Nat) : Int := zi c 3 * (za c 1 i * za c 2 j - za c 2 i * za c 1 j) + zi c 4 * (za c 2 i * za c 0 j - za c 0 i * za c 2 j) + zi c 5 * (za c 0 i * za c 1 j - za c 1 i * za c 0 j)
theorem tn_sv (c : SZ) (i j k : Nat) : sv c i j + sv c j k + sv c k i = tn c i j k := by
  unfold tn sv vol
  grind
theorem sv_anti (c : SZ) (i j : Nat) : sv c j i = -(sv c i j) := by
  unfold sv
  grind
theorem sv_self (c : SZ) (i : Nat) : sv c i i = 0 := by
  unfold sv
  grind
theorem vol_bd {a b c d e f g h i A B C : Int} (h1 : -A ≤ a ∧ a ≤ A) (h2 : -A ≤ b ∧ b ≤ A) (h3 : -A ≤ c ∧ c ≤ A) (h4 : -B ≤ d ∧ d ≤ B) (h5 : -B ≤ e ∧ e ≤ B) (h6 : -B ≤ f ∧ f ≤ B) (h7 : -C ≤ g ∧ g ≤ C) (h8 : -C ≤ h ∧ h ≤ C) (h9 : -C ≤ i ∧ i ≤ C) : -(3 * (A * (2 * (B * C)))) ≤ vol a b c d e f g h i ∧ vol a b c d e f g h i ≤ 3 * (A * (2 * (B * C))) := by
  have m1 := mb h5.1 h5.2 h9.1 h9.2
  have m2 := mb h6.1 h6.2 h8.1 h8.2
  have m3 := mb h6.1 h6.2 h7.1 h7.2
  have m4 := mb h4.1 h4.2 h9.1 h9.2
  have m5 := mb h4.1 h4.2 h8.1 h8.2
  have m6 := mb h5.1 h5.2 h7.1 h7.2
  have n1 := mb (x := a) (y := e * i - f * h) (A := A) (B := 2 * (B * C)) h1.1 h1.2 (by omega) (by omega)
  have n2 := mb (x := b) (y := f * g - d * i) (A := A) (B := 2 * (B * C)) h2.1 h2.2 (by omega) (by omega)
  have n3 := mb (x := c) (y := d * h - e * g) (A := A) (B := 2 * (B * C)) h3.1 h3.2 (by omega) (by omega)
  unfold vol
  omega
theorem tn_bd {c : SZ} (hg : Gd c) (i j k : Nat) : -5832 ≤ tn c i j k ∧ tn c i j k ≤ 5832 := by
  obtain ⟨g0, g1, g2, g3, gp, gc, gf, gw, gv⟩ := id hg
  have p1 := gp i
  have p2 := gp j
  have p3 := gp k
  have := vol_bd (a := za c 0 j - za c 0 i) (b := za c 1 j - za c 1 i) (c := za c 2 j - za c 2 i) (d := za c 0 k - za c 0 i) (e := za c 1 k - za c 1 i) (f := za c 2 k - za c 2 i) (g := zi c 3) (h := zi c 4) (i := zi c 5) (A := 18) (B := 18) (C := 3) (by omega) (by omega) (by omega) (by omega) (by omega) (by omega) (by omega) (by omega) (by omega)
  unfold tn
  omega
theorem sv_bd {c : SZ} (hg : Gd c) (i j : Nat) : -1458 ≤ sv c i j ∧ sv c i j ≤ 1458 := by
  obtain ⟨g0, g1, g2, g3, gp, gc, gf, gw, gv⟩ := id hg
  have p1 := gp i
  have p2 := gp j
  have := vol_bd (a := zi c 3) (b := zi c 4) (c := zi c 5) (d := za c 0 i) (e := za c 1 i) (f := za c 2 i) (g := za c 0 j) (h := za c 1 j) (i := za c 2 j) (A := 3) (B := 9) (C := 9) (by omega) (by omega) (by omega) (by omega) (by omega) (by omega) (by omega) (by omega) (by omega)
  unfold sv
  unfold vol at this
  omega
def cor (c : SZ) (f i : Nat) : Nat := (za c 3 (3 * f + i)).toNat
theorem cor_int {c : SZ} (hg : Gd c) (f i : Nat) : ((cor c f i : Nat) : Int) = za c 3 (3 * f + i) := by
  have := hg.2.2.2.2.2.1 (3 * f + i)
  unfold cor; omega
theorem cor_lt {c : SZ} (hg : Gd c) {f i : Nat} (hf : (f : Int) < zi c 1) (hi : i < 3) : (cor c f i : Int) < zi c 0 := by
  rw [cor_int hg]
  have := hg.2.2.2.2.2.2.1 f hf
  have h : i = 0 ∨ i = 1 ∨ i = 2 := by omega
  rcases h with rfl | rfl | rfl
  · exact this.1.1
  · exact this.1.2.1
  · exact this.1.2.2
/-- how a face turns -/
def sw (c : SZ) (f : Nat) : Int := tn c (cor c f 0) (cor c f 1) (cor c f 2)
/-- vol(Q - P, R - P, P - X) -/
def dp (c : SZ) (f n : Nat) : Int := vol (za c 0 (cor c f 1) - za c 0 (cor c f 0)) (za c 1 (cor c f 1) - za c 1 (cor c f 0)) (za c 2 (cor c f 1) - za c 2 (cor c f 0)) (za c 0 (cor c f 2) - za c 0 (cor c f 0)) (za c 1 (cor c f 2) - za c 1 (cor c f 0)) (za c 2 (cor c f 2) - za c 2 (cor c f 0)) (za c 0 (cor c f 0) - za c 0 n) (za c 1 (cor c f 0) - za c 1 n) (za c 2 (cor c f 0) - za c 2 n)
theorem dp_bd {c : SZ} (hg : Gd c) (f n : Nat) : -34992 ≤ dp c f n ∧ dp c f n ≤ 34992 := by
  have gp := hg.2.2.2.2.1
  have p1 := gp (cor c f 0)
  have p2 := gp (cor c f 1)
  have p3 := gp (cor c f 2)
  have p4 := gp n
  have := vol_bd (a := za c 0 (cor c f 1) - za c 0 (cor c f 0)) (b := za c 1 (cor c f 1) - za c 1 (cor c f 0)) (c := za c 2 (cor c f 1) - za c 2 (cor c f 0)) (d := za c 0 (cor c f 2) - za c 0 (cor c f 0)) (e := za c 1 (cor c f 2) - za c 1 (cor c f 0)) (f := za c 2 (cor c f 2) - za c 2 (cor c f 0)) (g := za c 0 (cor c f 0) - za c 0 n) (h := za c 1 (cor c f 0) - za c 1 n) (i := za c 2 (cor c f 0) - za c 2 n) (A := 18) (B := 18) (C := 18) (by omega) (by omega) (by omega) (by omega) (by omega) (by omega) (by omega) (by omega) (by omega)
  unfold dp
  omega
/-- the four numbers of a point against a face -/
def its (c : SZ) (f k n : Nat) : Int := if k = 0 then tn c (cor c f 0) (cor c f 1) n else if k = 1 then tn c (cor c f 1) (cor c f 2) n else if k = 2 then tn c (cor c f 2) (cor c f 0) n else dp c f n
def sg (c : SZ) (f : Nat) : Int := if 0 < sw c f then 1 else if sw c f < 0 then -1 else 0
def mg (c : SZ) (f k n : Nat) : Int := sg c f * its c f k n
theorem its_bd {c : SZ} (hg : Gd c) (f k n : Nat) : -34992 ≤ its c f k n ∧ its c f k n ≤ 34992 := by
  unfold its
  have h1 := tn_bd hg (cor c f 0) (cor c f 1) n
  have h2 := tn_bd hg (cor c f 1) (cor c f 2) n
  have h3 := tn_bd hg (cor c f 2) (cor c f 0) n
  have h4 := dp_bd hg f n
  repeat' split
  all_goals omega
theorem mg_bd {c : SZ} (hg : Gd c) (f k n : Nat) : -34992 ≤ mg c f k n ∧ mg c f k n ≤ 34992 := by
  have := its_bd hg f k n
  unfold mg sg
  repeat' split
  · rw [Int.one_mul]; exact this
  · rw [Int.neg_one_mul]; omega
  · rw [Int.zero_mul]; omega
def ht (c : SZ) (n : Nat) : Int := zi c 3 * za c 0 n + zi c 4 * za c 1 n + zi c 5 * za c 2 n
theorem ht_bd {c : SZ} (hg : Gd c) (n : Nat) : -81 ≤ ht c n ∧ ht c n ≤ 81 := by
  obtain ⟨g0, g1, g2, g3, gp, gc, gf, gw, gv⟩ := id hg
  have p1 := gp n
  have m1 := mb (x := zi c 3) (y := za c 0 n) (A := 3) (B := 9) (by omega) (by omega) (by omega) (by omega)
  have m2 := mb (x := zi c 4) (y := za c 1 n) (A := 3) (B := 9) (by omega) (by omega) (by omega) (by omega)
  have m3 := mb (x := zi c 5) (y := za c 2 n) (A := 3) (B := 9) (by omega) (by omega) (by omega) (by omega)
  unfold ht
  omega
/-- what stays -/
def Fr (li la ll lb : List Nat) (X X1 : SZ) : Prop := (∀ k, k ∉ li → zi X1 k = zi X k) ∧ (∀ k j, k ∉ la → za X1 k j = za X k j) ∧ (∀ k, k ∉ ll → zl X1 k = zl X k) ∧ (∀ k j, k ∉ lb → zb X1 k j = zb X k j)
theorem Fr.rf (li la ll lb : List Nat) (X : SZ) : Fr li la ll lb X X := ⟨fun _ _ => rfl, fun _ _ _ => rfl, fun _ _ => rfl, fun _ _ _ => rfl⟩
theorem Fr.tr {li la ll lb : List Nat} {X X1 X2 : SZ} (h : Fr li la ll lb X X1) (h2 : Fr li la ll lb X1 X2) : Fr li la ll lb X X2 := ⟨fun k hk => (h2.1 k hk).trans (h.1 k hk), fun k j hk => (h2.2.1 k j hk).trans (h.2.1 k j hk), fun k hk => (h2.2.2.1 k hk).trans (h.2.2.1 k hk), fun k j hk => (h2.2.2.2 k j hk).trans (h.2.2.2 k j hk)⟩
theorem Fr.mono {li la ll lb li2 la2 ll2 lb2 : List Nat} {X X1 : SZ} (h : Fr li la ll lb X X1) (h1 : ∀ k ∈ li, k ∈ li2) (h2 : ∀ k ∈ la, k ∈ la2) (h3 : ∀ k ∈ ll, k ∈ ll2) (h4 : ∀ k ∈ lb, k ∈ lb2) : Fr li2 la2 ll2 lb2 X X1 := ⟨fun k hk => h.1 k (fun q => hk (h1 k q)), fun k j hk => h.2.1 k j (fun q => hk (h2 k q)), fun k hk => h.2.2.1 k (fun q => hk (h3 k q)), fun k j hk => h.2.2.2 k j (fun q => hk (h4 k q))⟩
theorem Fr.ui {li la ll lb : List Nat} {X X1 : SZ} (h : Fr li la ll lb X X1) {k : Nat} (hk : k ∈ li) (v : Int) : Fr li la ll lb X (ui X1 k v) := ⟨fun j hj => (zi_ui' X1 v (fun (e : j = k) => hj (by rw [e]; exact hk))).trans (h.1 j hj), h.2.1, h.2.2.1, h.2.2.2⟩
theorem Fr.ul {li la ll lb : List Nat} {X X1 : SZ} (h : Fr li la ll lb X X1) {k : Nat} (hk : k ∈ ll) (v : Int) : Fr li la ll lb X (ul X1 k v) := ⟨h.1, h.2.1, fun j hj => (zl_ul' X1 v (fun (e : j = k) => hj (by rw [e]; exact hk))).trans (h.2.2.1 j hj), h.2.2.2⟩
theorem Fr.ua {li la ll lb : List Nat} {X X1 : SZ} (h : Fr li la ll lb X X1) {k : Nat} (hk : k ∈ la) (i : Nat) (v : Int) : Fr li la ll lb X (ua X1 k i v) := ⟨h.1, fun j n hj => (za_ua' X1 i n v (fun (e : j = k) => hj (by rw [e]; exact hk))).trans (h.2.1 j n hj), h.2.2.1, h.2.2.2⟩
theorem Fr.ub {li la ll lb : List Nat} {X X1 : SZ} (h : Fr li la ll lb X X1) {k : Nat} (hk : k ∈ lb) (i : Nat) (v : Int) : Fr li la ll lb X (ub X1 k i v) := ⟨h.1, h.2.1, h.2.2.1, fun j n hj => (zb_ub' X1 i n v (fun (e : j = k) => hj (by rw [e]; exact hk))).trans (h.2.2.2 j n hj)⟩
theorem msh_fr {li la ll lb : List Nat} {X X1 c : SZ} (hm : Msh X c) (h : Fr li la ll lb X X1) (h1 : ∀ k, 2 ≤ k → k ≤ 7 → k ∉ li) (h2 : ∀ k, 1 ≤ k → k ≤ 5 → k ∉ la) : Msh X1 c := by
  obtain ⟨e0, e1, e2, e3, e4, e5, ex, ey, ez, ec, ew, ev, eb⟩ := hm
  refine ⟨?_, ?_, ?_, ?_, ?_, ?_, ?_, ?_, ?_, ?_, ?_, ?_, eb⟩
  · rw [h.1 2 (h1 2 (by omega) (by omega))]; exact e0
  · rw [h.1 3 (h1 3 (by omega) (by omega))]; exact e1
  · rw [h.1 4 (h1 4 (by omega) (by omega))]; exact e2
  · rw [h.1 5 (h1 5 (by omega) (by omega))]; exact e3
  · rw [h.1 6 (h1 6 (by omega) (by omega))]; exact e4
  · rw [h.1 7 (h1 7 (by omega) (by omega))]; exact e5
  · intro j; rw [h.2.1 1 j (h2 1 (by omega) (by omega))]; exact ex j
  · intro j; rw [h.2.1 2 j (h2 2 (by omega) (by omega))]; exact ey j
  · intro j; rw [h.2.1 3 j (h2 3 (by omega) (by omega))]; exact ez j
  · intro j; rw [h.2.1 4 j (h2 4 (by omega) (by omega))]; exact ec j
  · intro j; rw [h.2.1 5 _ (h2 5 (by omega) (by omega))]; exact ew j
  · intro j; rw [h.2.1 5 _ (h2 5 (by omega) (by omega))]; exact ev j
