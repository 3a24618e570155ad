/-! LAYER 2: the functions in whole numbers; how a written method is evaluated -/
theorem chk_tr {β : Type} {k : Option β} {inst : Decidable True} : @chk β True inst k = k := if_pos trivial
theorem chk_rng {β : Type} {x : Int} {k : Option β} {inst : Decidable (rng x)} (h1 : -2147483648 ≤ x) (h2 : x < 2147483648) : @chk β (rng x) inst k = k := if_pos ⟨h1, h2⟩
theorem chk_rnl {β : Type} {x : Int} {k : Option β} {inst : Decidable (rnl x)} (h1 : -9223372036854775808 ≤ x) (h2 : x < 9223372036854775808) : @chk β (rnl x) inst k = k := if_pos ⟨h1, h2⟩
theorem chk_ins {β : Type} {x n : Int} {k : Option β} {inst : Decidable (ins x n)} (h1 : 0 ≤ x) (h2 : x < n) : @chk β (ins x n) inst k = k := if_pos ⟨h1, h2⟩
theorem chk_ne {β : Type} {x : Int} {k : Option β} {inst : Decidable (¬ x = 0)} (h1 : x ≠ 0) : @chk β (¬ x = 0) inst k = k := if_pos h1
theorem chk_01 {β : Type} {x : Int} {k : Option β} {inst : Decidable (x = 0 ∨ x = 1)} (h1 : x = 0 ∨ x = 1) : @chk β (x = 0 ∨ x = 1) inst k = k := if_pos h1
theorem olet_e {α β : Type} {v : α} {k : α → Option β} : olet v k = k v := rfl
theorem ob1_s {α β : Type} {q : α} {k : α → Option β} : ob1 (some q) k = k q := rfl
theorem ob2_s {α γ β : Type} {q : α} {r : γ} {k : α → γ → Option β} : ob2 (some (q, r)) k = k q r := rfl
theorem zi_ui (Z : SZ) (k : Nat) (v : Int) : zi (ui Z k v) k = v := by unfold zi ui va_up; simp
theorem zi_ui' (Z : SZ) {k j : Nat} (v : Int) (h : j ≠ k) : zi (ui Z k v) j = zi Z j := by unfold zi ui va_up; simp [h]
theorem zl_ui (Z : SZ) (k j : Nat) (v : Int) : zl (ui Z k v) j = zl Z j := (rfl)
theorem za_ui (Z : SZ) (k j i : Nat) (v : Int) : za (ui Z k v) j i = za Z j i := (rfl)
theorem zb_ui (Z : SZ) (k j i : Nat) (v : Int) : zb (ui Z k v) j i = zb Z j i := (rfl)
theorem zi_ul (Z : SZ) (k j : Nat) (v : Int) : zi (ul Z k v) j = zi Z j := (rfl)
theorem zl_ul (Z : SZ) (k : Nat) (v : Int) : zl (ul Z k v) k = v := by unfold zl ul va_up; simp
theorem zl_ul' (Z : SZ) {k j : Nat} (v : Int) (h : j ≠ k) : zl (ul Z k v) j = zl Z j := by unfold zl ul va_up; simp [h]
theorem za_ul (Z : SZ) (k j i : Nat) (v : Int) : za (ul Z k v) j i = za Z j i := (rfl)
theorem zb_ul (Z : SZ) (k j i : Nat) (v : Int) : zb (ul Z k v) j i = zb Z j i := (rfl)
theorem zi_ua (Z : SZ) (k i j : Nat) (v : Int) : zi (ua Z k i v) j = zi Z j := (rfl)
theorem zl_ua (Z : SZ) (k i j : Nat) (v : Int) : zl (ua Z k i v) j = zl Z j := (rfl)
theorem zb_ua (Z : SZ) (k i j n : Nat) (v : Int) : zb (ua Z k i v) j n = zb Z j n := (rfl)
theorem za_ua (Z : SZ) (k i : Nat) (v : Int) : za (ua Z k i v) k i = v := by unfold za ua va_up; simp
theorem za_ua' (Z : SZ) {k k2 : Nat} (i j : Nat) (v : Int) (h : k2 ≠ k) : za (ua Z k i v) k2 j = za Z k2 j := by unfold za ua va_up; simp [h]
theorem za_uaj (Z : SZ) (k : Nat) {i j : Nat} (v : Int) (h : j ≠ i) : za (ua Z k i v) k j = za Z k j := by unfold za ua va_up; simp [h]
theorem za_uai (Z : SZ) (k : Nat) (i j : Nat) (v : Int) : za (ua Z k i v) k j = if j = i then v else za Z k j := by unfold za ua va_up; simp
theorem zi_ub (Z : SZ) (k i j : Nat) (v : Int) : zi (ub Z k i v) j = zi Z j := (rfl)
theorem zl_ub (Z : SZ) (k i j : Nat) (v : Int) : zl (ub Z k i v) j = zl Z j := (rfl)
theorem za_ub (Z : SZ) (k i j n : Nat) (v : Int) : za (ub Z k i v) j n = za Z j n := (rfl)
theorem zb_ub (Z : SZ) (k i : Nat) (v : Int) : zb (ub Z k i v) k i = v := by unfold zb ub va_up; simp
theorem zb_ub' (Z : SZ) {k k2 : Nat} (i j : Nat) (v : Int) (h : k2 ≠ k) : zb (ub Z k i v) k2 j = zb Z k2 j := by unfold zb ub va_up; simp [h]
theorem zb_ubj (Z : SZ) (k : Nat) {i j : Nat} (v : Int) (h : j ≠ i) : zb (ub Z k i v) k j = zb Z k j := by unfold zb ub va_up; simp [h]
theorem zb_ubi (Z : SZ) (k : Nat) (i j : Nat) (v : Int) : zb (ub Z k i v) k j = if j = i then v else zb Z k j := by unfold zb ub va_up; simp
/-! small ones of both sides -/
theorem X8_within_1 (S : SZ) {v b : Int} (h1 : -b ≤ v) (h2 : v ≤ b) (h3 : 0 ≤ b) (h4 : b ≤ 1000) : f_X8_within S v b = some (S, 1) := by
  unfold f_X8_within; simp (disch := omega) only [chk_tr, chk_rng, chk_rnl, chk_ins, chk_ne, chk_01, olet_e, ob1_s, ob2_s, if_pos, if_neg, if_true, if_false, Int.add_zero, true_or, or_true]
theorem X8_within_l (S : SZ) {v b : Int} (h1 : v < -b) (h0 : -2147483648 ≤ v) (h3 : 0 ≤ b) (h4 : b ≤ 1000) : f_X8_within S v b = some (S, 0) := by
  unfold f_X8_within; simp (disch := omega) only [chk_tr, chk_rng, chk_rnl, chk_ins, chk_ne, chk_01, olet_e, ob1_s, ob2_s, if_pos, if_neg, if_true, if_false, Int.add_zero, true_or, or_true]
theorem X8_within_r (S : SZ) {v b : Int} (h1 : b < v) (h0 : v < 2147483648) (h3 : 0 ≤ b) (h4 : b ≤ 1000) : f_X8_within S v b = some (S, 0) := by
  unfold f_X8_within; simp (disch := omega) only [chk_tr, chk_rng, chk_rnl, chk_ins, chk_ne, chk_01, olet_e, ob1_s, ob2_s, if_pos, if_neg, if_true, if_false, Int.add_zero, true_or, or_true]
theorem X9_within_1 (S : SZ) {v a b : Int} (h1 : a ≤ v) (h2 : v ≤ b) (h3 : -2147483648 ≤ a) (h4 : b < 2147483648) : f_X9_within S v a b = some (S, 1) := by
  unfold f_X9_within; simp (disch := omega) only [chk_tr, chk_rng, chk_rnl, chk_ins, chk_ne, chk_01, olet_e, ob1_s, ob2_s, if_pos, if_neg, if_true, if_false, Int.add_zero, true_or, or_true]
theorem X9_within_l (S : SZ) {v a b : Int} (h1 : v < a) (h0 : -2147483648 ≤ v) (h3 : a < 2147483648) : f_X9_within S v a b = some (S, 0) := by
  unfold f_X9_within; simp (disch := omega) only [chk_tr, chk_rng, chk_rnl, chk_ins, chk_ne, chk_01, olet_e, ob1_s, ob2_s, if_pos, if_neg, if_true, if_false, Int.add_zero, true_or, or_true]
theorem X9_within_r (S : SZ) {v a b : Int} (h1 : b < v) (h0 : v < 2147483648) (h3 : -2147483648 ≤ v) (h5 : -2147483648 ≤ a) (h6 : a < 2147483648) (h4 : -2147483648 ≤ b) : f_X9_within S v a b = some (S, 0) := by
  by_cases h : v < a
  · exact X9_within_l S h h3 h6
  · unfold f_X9_within; simp (disch := omega) only [chk_tr, chk_rng, chk_rnl, chk_ins, chk_ne, chk_01, olet_e, ob1_s, ob2_s, if_pos, if_neg, if_true, if_false, Int.add_zero, true_or, or_true]
def plc (x y z : Int) : Prop := (-9 ≤ x ∧ x ≤ 9) ∧ (-9 ≤ y ∧ y ≤ 9) ∧ (-9 ≤ z ∧ z ≤ 9)
theorem X8_isPlace_1 (S : SZ) {x y z : Int} (h : plc x y z) : f_X8_isPlace S x y z = some (S, 1) := by
  obtain ⟨⟨h1, h2⟩, ⟨h3, h4⟩, h5, h6⟩ := h
  unfold f_X8_isPlace; simp (disch := omega) only [chk_tr, chk_rng, chk_rnl, chk_ins, chk_ne, chk_01, olet_e, ob1_s, ob2_s, if_pos, if_neg, if_true, if_false, Int.add_zero, true_or, or_true, X8_within_1]
theorem X8_isPlace_0 (S : SZ) {x y z : Int} (r1 : rng x) (r2 : rng y) (r3 : rng z) (h : ¬ plc x y z) : f_X8_isPlace S x y z = some (S, 0) := by
  obtain ⟨a1, b1⟩ := r1
  obtain ⟨a2, b2⟩ := r2
  obtain ⟨a3, b3⟩ := r3
  unfold plc at h
  unfold f_X8_isPlace
  by_cases h1 : x < -9
  · simp (disch := omega) only [chk_tr, chk_rng, chk_rnl, chk_ins, chk_ne, chk_01, olet_e, ob1_s, ob2_s, if_pos, if_neg, if_true, if_false, Int.add_zero, true_or, or_true, X8_within_l]
  by_cases h2 : 9 < x
  · simp (disch := omega) only [chk_tr, chk_rng, chk_rnl, chk_ins, chk_ne, chk_01, olet_e, ob1_s, ob2_s, if_pos, if_neg, if_true, if_false, Int.add_zero, true_or, or_true, X8_within_r]
  by_cases h3 : y < -9
  · simp (disch := omega) only [chk_tr, chk_rng, chk_rnl, chk_ins, chk_ne, chk_01, olet_e, ob1_s, ob2_s, if_pos, if_neg, if_true, if_false, Int.add_zero, true_or, or_true, X8_within_1, X8_within_l]
  by_cases h4 : 9 < y
  · simp (disch := omega) only [chk_tr, chk_rng, chk_rnl, chk_ins, chk_ne, chk_01, olet_e, ob1_s, ob2_s, if_pos, if_neg, if_true, if_false, Int.add_zero, true_or, or_true, X8_within_1, X8_within_r]
  by_cases h5 : z < -9
  · simp (disch := omega) only [chk_tr, chk_rng, chk_rnl, chk_ins, chk_ne, chk_01, olet_e, ob1_s, ob2_s, if_pos, if_neg, if_true, if_false, Int.add_zero, true_or, or_true, X8_within_1, X8_within_l]
  have h6 : 9 < z := by omega
  simp (disch := omega) only [chk_tr, chk_rng, chk_rnl, chk_ins, chk_ne, chk_01, olet_e, ob1_s, ob2_s, if_pos, if_neg, if_true, if_false, Int.add_zero, true_or, or_true, X8_within_1, X8_within_r]
theorem X9_isPlace_1 (S : SZ) {x y z : Int} (h : plc x y z) : f_X9_isPlace S x y z = some (S, 1) := by
  obtain ⟨⟨h1, h2⟩, ⟨h3, h4⟩, h5, h6⟩ := h
  unfold f_X9_isPlace; simp (disch := omega) only [chk_tr, chk_rng, chk_rnl, chk_ins, chk_ne, chk_01, olet_e, ob1_s, ob2_s, if_pos, if_neg, if_true, if_false, Int.add_zero, true_or, or_true, X9_within_1]
theorem X9_isPlace_0 (S : SZ) {x y z : Int} (r1 : rng x) (r2 : rng y) (r3 : rng z) (h : ¬ plc x y z) : f_X9_isPlace S x y z = some (S, 0) := by
  obtain ⟨a1, b1⟩ := r1
  obtain ⟨a2, b2⟩ := r2
  obtain ⟨a3, b3⟩ := r3
  unfold plc at h
  unfold f_X9_isPlace
  by_cases h1 : x < -9
  · simp (disch := omega) only [chk_tr, chk_rng, chk_rnl, chk_ins, chk_ne, chk_01, olet_e, ob1_s, ob2_s, if_pos, if_neg, if_true, if_false, Int.add_zero, true_or, or_true, X9_within_l]
  by_cases h2 : 9 < x
  · simp (disch := omega) only [chk_tr, chk_rng, chk_rnl, chk_ins, chk_ne, chk_01, olet_e, ob1_s, ob2_s, if_pos, if_neg, if_true, if_false, Int.add_zero, true_or, or_true, X9_within_r]
  by_cases h3 : y < -9
  · simp (disch := omega) only [chk_tr, chk_rng, chk_rnl, chk_ins, chk_ne, chk_01, olet_e, ob1_s, ob2_s, if_pos, if_neg, if_true, if_false, Int.add_zero, true_or, or_true, X9_within_1, X9_within_l]
  by_cases h4 : 9 < y
  · simp (disch := omega) only [chk_tr, chk_rng, chk_rnl, chk_ins, chk_ne, chk_01, olet_e, ob1_s, ob2_s, if_pos, if_neg, if_true, if_false, Int.add_zero, true_or, or_true, X9_within_1, X9_within_r]
  by_cases h5 : z < -9
  · simp (disch := omega) only [chk_tr, chk_rng, chk_rnl, chk_ins, chk_ne, chk_01, olet_e, ob1_s, ob2_s, if_pos, if_neg, if_true, if_false, Int.add_zero, true_or, or_true, X9_within_1, X9_within_l]
  have h6 : 9 < z := by omega
  simp (disch := omega) only [chk_tr, chk_rng, chk_rnl, chk_ins, chk_ne, chk_01, olet_e, ob1_s, ob2_s, if_pos, if_neg, if_true, if_false, Int.add_zero, true_or, or_true, X9_within_1, X9_within_r]
/-! evaluating from the head on -/
theorem ev_tr {β : Type} {k z : Option β} {inst : Decidable True} (h : k = z) : @chk β True inst k = z := (chk_tr).trans h
theorem ev_rng {β : Type} {x : Int} {k z : Option β} {inst : Decidable (rng x)} (h1 : -2147483648 ≤ x) (h2 : x < 2147483648) (h : k = z) : @chk β (rng x) inst k = z := (chk_rng h1 h2).trans h
theorem ev_rnl {β : Type} {x : Int} {k z : Option β} {inst : Decidable (rnl x)} (h1 : -9223372036854775808 ≤ x) (h2 : x < 9223372036854775808) (h : k = z) : @chk β (rnl x) inst k = z := (chk_rnl h1 h2).trans h
theorem ev_ins {β : Type} {x n : Int} {k z : Option β} {inst : Decidable (ins x n)} (h1 : 0 ≤ x) (h2 : x < n) (h : k = z) : @chk β (ins x n) inst k = z := (chk_ins h1 h2).trans h
theorem ev_ne {β : Type} {x : Int} {k z : Option β} {inst : Decidable (¬ x = 0)} (h1 : ¬ x = 0) (h : k = z) : @chk β (¬ x = 0) inst k = z := (chk_ne h1).trans h
theorem ev_01 {β : Type} {x : Int} {k z : Option β} {inst : Decidable (x = 0 ∨ x = 1)} (h1 : x = 0 ∨ x = 1) (h : k = z) : @chk β (x = 0 ∨ x = 1) inst k = z := (chk_01 h1).trans h
theorem ev_if1 {β : Type} {c : Prop} {inst : Decidable c} {t f z : Option β} (hc : c) (h : t = z) : (@ite _ c inst t f) = z := (if_pos hc).trans h
theorem ev_if0 {β : Type} {c : Prop} {inst : Decidable c} {t f z : Option β} (hc : ¬ c) (h : f = z) : (@ite _ c inst t f) = z := (if_neg hc).trans h
theorem ev_let {α β : Type} {v : α} {k : α → Option β} {z : Option β} (h : k v = z) : olet v k = z := h
theorem ev_ob1 {α β : Type} {o : Option α} {q : α} {k : α → Option β} {z : Option β} (ho : o = some q) (h : k q = z) : ob1 o k = z := by subst ho; exact h
theorem ev_ob2 {α γ β : Type} {o : Option (α × γ)} {q : α} {r : γ} {k : α → γ → Option β} {z : Option β} (ho : o = some (q, r)) (h : k q r = z) : ob2 o k = z := by subst ho; exact h
