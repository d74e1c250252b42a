/-! THE CLASS: its memory out of natural numbers X (cell, place) at the base g; the cells 26 to 44 are the reference's -/
def xe (k j v : Nat) : Int32 := if k = 0 ∧ j = 8 then nI v - nI 1 else nI v
def zx (g : Nat) (X : Nat → Nat → Nat) (I0 : zq_I) : zq_I := fun a j => if g ≤ a ∧ ¬ (g + 26 ≤ a ∧ a < g + 45) then xe (a - g) j (X (a - g) j) else I0 a j
section ZX
variable {g : Nat} {X : Nat → Nat → Nat} {I0 : zq_I} {j v k : Nat}
theorem zx_get (hk : k < 26 ∨ 45 ≤ k) : zx g X I0 (g + k) j = xe k j (X k j) := by
  unfold zx
  rw [if_pos (by omega), Nat.add_sub_cancel_left]
theorem zx_n (hk : k < 26 ∨ 45 ≤ k) (h0 : k ≠ 0) : zx g X I0 (g + k) j = nI (X k j) := by
  rw [zx_get hk]
  simp [xe, h0]
theorem zx_8 : zx g X I0 g 8 = nI (X 0 8) - nI 1 := zx_get (k := 0) (by omega)
theorem zx_9 : zx g X I0 g 9 = nI (X 0 9) := (zx_get (k := 0) (by omega)).trans (by simp [xe])
theorem zx_out {a : Nat} (h : ¬ (g ≤ a ∧ ¬ (g + 26 ≤ a ∧ a < g + 45))) : zx g X I0 a j = I0 a j := if_neg h
theorem zx_upg {x : Int32} (hk : k < 26 ∨ 45 ≤ k) (hx : xe k j v = x) : zq_up (zx g X I0) (g + k) j x = zx g (zq_up X k j v) I0 := by
  funext a i
  unfold zq_up zx
  by_cases ha : g ≤ a ∧ ¬ (g + 26 ≤ a ∧ a < g + 45)
  · by_cases h1 : a = g + k
    · subst h1
      rw [if_pos ha, if_pos ha, Nat.add_sub_cancel_left]
      by_cases h2 : i = j
      · subst h2
        simp [hx]
      · simp [h2]
    · rw [if_neg (fun q => h1 q.1), if_pos ha, if_pos ha]
      dsimp only
      rw [if_neg (fun q => h1 (by omega))]
  · rw [if_neg (fun q => ha (by omega)), if_neg ha, if_neg ha]
theorem zx_u (hk : k < 26 ∨ 45 ≤ k) (h0 : k ≠ 0) : zq_up (zx g X I0) (g + k) j (nI v) = zx g (zq_up X k j v) I0 := zx_upg hk (by simp [xe, h0])
theorem zx_u8 : zq_up (zx g X I0) g 8 (nI v) = zx g (zq_up X 0 8 (v + 1)) I0 := zx_upg (k := 0) (by omega) (by simp [xe, nI_pred, show nI 1 = 1 from rfl])
theorem zx_u9 : zq_up (zx g X I0) g 9 (nI v) = zx g (zq_up X 0 9 v) I0 := zx_upg (k := 0) (by omega) (by simp [xe])
end ZX
def zc_rw (g k len : Nat) (sh : zq_S) (P : zq_P) : Prop := (sh (g + k)).1 = 104 ∧ P (g + k) 0 = some (g + (k + 1)) ∧ (sh (g + (k + 1))).1 = 2 ∧ (sh (g + (k + 1))).2 = len ∧ k ≠ 0 ∧ (k + 1 < 26 ∨ 45 ≤ k) ∧ len < 100
def zc_tr (g k : Nat) (sh : zq_S) (P : zq_P) : Prop := (sh (g + k)).1 = 105 ∧ P (g + k) 0 = some (g + (k + 1)) ∧ P (g + k) 1 = some (g + (k + 2)) ∧ (sh (g + (k + 1))).1 = 2 ∧ (sh (g + (k + 1))).2 = 16 ∧ (sh (g + (k + 2))).1 = 2 ∧ (sh (g + (k + 2))).2 = 16 ∧ 45 ≤ k
def zc_ep (g k : Nat) (sh : zq_S) (P : zq_P) : Prop := (sh (g + k)).1 = 101 ∧ P (g + k) 0 = some (g + (k + 1)) ∧ P (g + k) 2 = some (g + (k + 4)) ∧ P (g + k) 3 = some (g + (k + 6)) ∧ zc_tr g (k + 1) sh P ∧ zc_rw g (k + 4) 16 sh P ∧ zc_rw g (k + 6) 16 sh P ∧ 45 ≤ k
def zc_ap (X : Nat → Nat → Nat) (k len x : Nat) : Nat → Nat → Nat := if X k 1 < len then zq_up (zq_up X (k + 1) (X k 1) x) k 1 (X k 1 + 1) else X
section MC
variable {d nx kx g k len : Nat} {sh : zq_S} {P : zq_P} {X : Nat → Nat → Nat} {I0 : zq_I}
theorem c_append (h : zc_rw g k len sh P) (hX : zr_bd X) {x : Nat} : zq_C d 61 [.ref (g + k), .int (nI x)] sh (zx g X I0) P nx kx = some (none, sh, zx g (zc_ap X k len x) I0, P, nx, kx) := by
  obtain ⟨h1, h2, h3, h4, h5, h6, h7⟩ := h
  have b := hX.lt k 1
  rw [m_append (n := X k 1) h1 h2 h3 h4 (zx_n (by omega) h5) b (by omega)]
  unfold zc_ap
  by_cases c : X k 1 < len
  · rw [if_pos c, if_pos c, zx_u (by omega) (by omega), zx_u (by omega) h5]
  · rw [if_neg c, if_neg c]
theorem c_clear (h : zc_rw g k len sh P) : zq_C d 60 [.ref (g + k)] sh (zx g X I0) P nx kx = some (none, sh, zx g (zq_up X k 1 0) I0, P, nx, kx) := by
  obtain ⟨h1, h2, h3, h4, h5, h6, h7⟩ := h
  rw [m_clear h1, zx_u (by omega) h5]
theorem c_at (h : zc_rw g k len sh P) (hX : zr_bd X) {i : Nat} (hi : i < X k 1) (hl : X k 1 ≤ len) : zq_C d 62 [.ref (g + k), .int (nI i)] sh (zx g X I0) P nx kx = some (some (.int (nI (X (k + 1) i))), sh, zx g X I0, P, nx, kx) := by
  obtain ⟨h1, h2, h3, h4, h5, h6, h7⟩ := h
  rw [m_at (n := X k 1) h1 h2 h3 h4 (zx_n (by omega) h5) (hX.lt k 1) hi hl, zx_n (by omega) (by omega)]
theorem c_contains (h : zc_rw g k len sh P) (hX : zr_bd X) {x : Int32} (hl : X k 1 ≤ len) : zq_C d 63 [.ref (g + k), .int x] sh (zx g X I0) P nx kx = some (some (.int (zq_b (∃ j, j < X k 1 ∧ nI (X (k + 1) j) = x))), sh, zx g X I0, P, nx, kx) := by
  obtain ⟨h1, h2, h3, h4, h5, h6, h7⟩ := h
  have go := m_contains_go (d := d) (nx := nx) (kx := kx) (x := x) (n := X k 1) h1 h2 h3 h4 (zx_n (X := X) (I0 := I0) (by omega) h5) (hX.lt k 1) hl (X k 1) 0 (Nat.zero_add _)
  have e : (∃ j, 0 ≤ j ∧ j < X k 1 ∧ zx g X I0 (g + (k + 1)) j = x) ↔ ∃ j, j < X k 1 ∧ nI (X (k + 1) j) = x := by
    constructor
    · rintro ⟨j, -, a, b⟩; exact ⟨j, a, by rw [← b, zx_n (by omega) (by omega)]⟩
    · rintro ⟨j, a, b⟩; exact ⟨j, Nat.zero_le _, a, by rw [zx_n (by omega) (by omega)]; exact b⟩
  rw [zq_b_congr e] at go
  simp (disch := first | assumption | omega | exact Nat.le_of_ble_eq_true rfl) only [q_Row_contains, q_Row_contains_0, q_Row_contains_1, q_Row_contains_3, q_Row_contains_3n, q_Row_contains_4, q_Row_contains_7, q_Row_contains_10, q_Row_contains_10n, q_Row_contains_11, q_Row_contains_14, q_Row_contains_15, q_Row_contains_16, q_Row_contains_17, q_Row_contains_20, q_Row_contains_21_0, q_Row_contains_21_1, q_Row_contains_21_b, q_Row_contains_22, q_Row_contains_25, q_Row_contains_28, q_Row_contains_29_0, q_Row_contains_29_1, q_Row_contains_29_b, go]
/-! the tree -/
theorem c_keyAt (h : zc_tr g k sh P) {n : Nat} (h1 : 1 ≤ n) (h2 : n ≤ 15) : zq_C (d + 1) 66 [.ref (g + k), .int (nI n)] sh (zx g X I0) P nx kx = some (some (.int (nI (X (k + 1) n))), sh, zx g X I0, P, nx, kx) := by
  obtain ⟨a1, a2, a3, a4, a5, a6, a7, a8⟩ := h
  have nd := m_isNode (d := d) (nx := nx) (kx := kx) (sh := sh) (I := zx g X I0) (P := P) n (by omega)
  have c : 1 ≤ n ∧ n ≤ 15 := ⟨h1, h2⟩
  simp (disch := first | assumption | omega | exact Nat.le_of_ble_eq_true rfl) only [q_Tree_keyAt, q_Tree_keyAt_0, q_Tree_keyAt_1, q_Tree_keyAt_4, q_Tree_keyAt_7, q_Tree_keyAt_7n, q_Tree_keyAt_8, q_Tree_keyAt_11, q_Tree_keyAt_12, q_Tree_keyAt_13, q_Tree_keyAt_16, q_Tree_keyAt_17, Option.bind_some, Option.toList_some, Option.toList_none, List.cons_append, List.nil_append, zq_rf_some, zq_rf_none, ↓reduceIte, zq_lt, zq_le, zq_eq, nI_add, zq_up_s, zq_up_o, zq_up_k, zq_b_eq0, Nat.reduceEqDiff, Nat.reduceLeDiff, Nat.reduceLT, Nat.reduceAdd, not_true_eq_false, not_false_eq_true, Nat.not_lt_zero, zq_on_lt, zq_os, false_or, or_false, or_self, Bool.false_eq_true, nd, c, and_self, a2, zx_n]
theorem c_unmergedAt (h : zc_tr g k sh P) {n : Nat} (h1 : 1 ≤ n) (h2 : n ≤ 15) : zq_C (d + 1) 67 [.ref (g + k), .int (nI n)] sh (zx g X I0) P nx kx = some (some (.int (nI (X (k + 2) n))), sh, zx g X I0, P, nx, kx) := by
  obtain ⟨a1, a2, a3, a4, a5, a6, a7, a8⟩ := h
  have nd := m_isNode (d := d) (nx := nx) (kx := kx) (sh := sh) (I := zx g X I0) (P := P) n (by omega)
  have c : 1 ≤ n ∧ n ≤ 15 := ⟨h1, h2⟩
  simp (disch := first | assumption | omega | exact Nat.le_of_ble_eq_true rfl) only [q_Tree_unmergedAt, q_Tree_unmergedAt_0, q_Tree_unmergedAt_1, q_Tree_unmergedAt_4, q_Tree_unmergedAt_7, q_Tree_unmergedAt_7n, q_Tree_unmergedAt_8, q_Tree_unmergedAt_11, q_Tree_unmergedAt_12, q_Tree_unmergedAt_13, q_Tree_unmergedAt_16, q_Tree_unmergedAt_17, Option.bind_some, Option.toList_some, Option.toList_none, List.cons_append, List.nil_append, zq_rf_some, zq_rf_none, ↓reduceIte, zq_lt, zq_le, zq_eq, nI_add, zq_up_s, zq_up_o, zq_up_k, zq_b_eq0, Nat.reduceEqDiff, Nat.reduceLeDiff, Nat.reduceLT, Nat.reduceAdd, not_true_eq_false, not_false_eq_true, Nat.not_lt_zero, zq_on_lt, zq_os, false_or, or_false, or_self, Bool.false_eq_true, nd, c, and_self, a3, zx_n]
theorem c_isBlank (h : zc_tr g k sh P) (hX : zr_bd X) {n : Nat} (h1 : 1 ≤ n) (h2 : n ≤ 15) : zq_C (d + 2) 68 [.ref (g + k), .int (nI n)] sh (zx g X I0) P nx kx = some (some (.int (zq_b (X (k + 1) n = 0))), sh, zx g X I0, P, nx, kx) := by
  have ka := c_keyAt (d := d) (nx := nx) (kx := kx) (X := X) (I0 := I0) h h1 h2
  have a1 := h.1
  have b := hX.lt (k + 1) n
  by_cases c : X (k + 1) n = 0
  · rw [zq_b_t c]
    simp (disch := first | assumption | omega | exact Nat.le_of_ble_eq_true rfl) only [q_Tree_isBlank, q_Tree_isBlank_0, q_Tree_isBlank_0n, q_Tree_isBlank_1, q_Tree_isBlank_2, q_Tree_isBlank_5, q_Tree_isBlank_8, q_Tree_isBlank_9, q_Tree_isBlank_12, q_Tree_isBlank_13_0, q_Tree_isBlank_13_1, q_Tree_isBlank_13_b, Option.bind_some, Option.toList_some, Option.toList_none, List.cons_append, List.nil_append, zq_rf_some, zq_rf_none, ↓reduceIte, zq_lt, zq_le, zq_eq, nI_add, zq_up_s, zq_up_o, zq_up_k, zq_b_eq0, Nat.reduceEqDiff, Nat.reduceLeDiff, Nat.reduceLT, Nat.reduceAdd, not_true_eq_false, not_false_eq_true, Nat.not_lt_zero, zq_on_lt, zq_os, false_or, or_false, or_self, Bool.false_eq_true, ka, c]
  · rw [zq_b_f c]
    simp (disch := first | assumption | omega | exact Nat.le_of_ble_eq_true rfl) only [q_Tree_isBlank, q_Tree_isBlank_0, q_Tree_isBlank_0n, q_Tree_isBlank_1, q_Tree_isBlank_2, q_Tree_isBlank_5, q_Tree_isBlank_8, q_Tree_isBlank_9, q_Tree_isBlank_12, q_Tree_isBlank_13_0, q_Tree_isBlank_13_1, q_Tree_isBlank_13_b, Option.bind_some, Option.toList_some, Option.toList_none, List.cons_append, List.nil_append, zq_rf_some, zq_rf_none, ↓reduceIte, zq_lt, zq_le, zq_eq, nI_add, zq_up_s, zq_up_o, zq_up_k, zq_b_eq0, Nat.reduceEqDiff, Nat.reduceLeDiff, Nat.reduceLT, Nat.reduceAdd, not_true_eq_false, not_false_eq_true, Nat.not_lt_zero, zq_on_lt, zq_os, false_or, or_false, or_self, Bool.false_eq_true, ka, c]
theorem c_isUnmerged (h : zc_tr g k sh P) (hX : zr_bd X) {l n : Nat} (hl : l < 8) (h1 : 1 ≤ n) (h2 : n ≤ 15) : zq_C (d + 2) 69 [.ref (g + k), .int (nI l), .int (nI n)] sh (zx g X I0) P nx kx = some (some (.int (zq_b (¬ zq_bt (X (k + 2) n) l = 0))), sh, zx g X I0, P, nx, kx) := by
  have ka := c_unmergedAt (d := d) (nx := nx) (kx := kx) (X := X) (I0 := I0) h h1 h2
  have a1 := h.1
  have b := hX.lt (k + 2) n
  have b1 := zq_bt_lt (X (k + 2) n) l
  have b2 : zq_bt (X (k + 2) n) l < 2 := Nat.mod_lt _ (by decide)
  by_cases c : zq_bt (X (k + 2) n) l = 0
  · rw [zq_b_f (fun q => q c)]
    simp (disch := first | assumption | omega | exact Nat.le_of_ble_eq_true rfl) only [q_Tree_isUnmerged, q_Tree_isUnmerged_0, q_Tree_isUnmerged_0n, q_Tree_isUnmerged_1, q_Tree_isUnmerged_2, q_Tree_isUnmerged_5, q_Tree_isUnmerged_6, q_Tree_isUnmerged_7, q_Tree_isUnmerged_8, q_Tree_isUnmerged_9, q_Tree_isUnmerged_10, q_Tree_isUnmerged_13, q_Tree_isUnmerged_14, q_Tree_isUnmerged_17, q_Tree_isUnmerged_18_0, q_Tree_isUnmerged_18_1, q_Tree_isUnmerged_18_b, Option.bind_some, Option.toList_some, Option.toList_none, List.cons_append, List.nil_append, zq_rf_some, zq_rf_none, ↓reduceIte, zq_lt, zq_le, zq_eq, nI_add, zq_up_s, zq_up_o, zq_up_k, zq_b_eq0, Nat.reduceEqDiff, Nat.reduceLeDiff, Nat.reduceLT, Nat.reduceAdd, not_true_eq_false, not_false_eq_true, Nat.not_lt_zero, zq_on_lt, zq_os, false_or, or_false, or_self, Bool.false_eq_true, ka, zq_bit, c]
  · have c1 : zq_bt (X (k + 2) n) l = 1 := by omega
    rw [zq_b_t c]
    simp (disch := first | assumption | omega | exact Nat.le_of_ble_eq_true rfl) only [q_Tree_isUnmerged, q_Tree_isUnmerged_0, q_Tree_isUnmerged_0n, q_Tree_isUnmerged_1, q_Tree_isUnmerged_2, q_Tree_isUnmerged_5, q_Tree_isUnmerged_6, q_Tree_isUnmerged_7, q_Tree_isUnmerged_8, q_Tree_isUnmerged_9, q_Tree_isUnmerged_10, q_Tree_isUnmerged_13, q_Tree_isUnmerged_14, q_Tree_isUnmerged_17, q_Tree_isUnmerged_18_0, q_Tree_isUnmerged_18_1, q_Tree_isUnmerged_18_b, Option.bind_some, Option.toList_some, Option.toList_none, List.cons_append, List.nil_append, zq_rf_some, zq_rf_none, ↓reduceIte, zq_lt, zq_le, zq_eq, nI_add, zq_up_s, zq_up_o, zq_up_k, zq_b_eq0, Nat.reduceEqDiff, Nat.reduceLeDiff, Nat.reduceLT, Nat.reduceAdd, not_true_eq_false, not_false_eq_true, Nat.not_lt_zero, zq_on_lt, zq_os, false_or, or_false, or_self, Bool.false_eq_true, ka, zq_bit, c1]
def zc_gk (X : Nat → Nat → Nat) (k n v : Nat) : Nat → Nat → Nat := zq_up (zq_up X (k + 1) n v) (k + 2) n 0
theorem c_giveKey (h : zc_tr g k sh P) {n v : Nat} (h1 : 1 ≤ n) (h2 : n ≤ 15) : zq_C (d + 1) 70 [.ref (g + k), .int (nI n), .int (nI v)] sh (zx g X I0) P nx kx = some (none, sh, zx g (zc_gk X k n v) I0, P, nx, kx) := by
  obtain ⟨a1, a2, a3, a4, a5, a6, a7, a8⟩ := h
  have nd := m_isNode (d := d) (nx := nx) (kx := kx) (sh := sh) (I := zx g X I0) (P := P) n (by omega)
  have c : 1 ≤ n ∧ n ≤ 15 := ⟨h1, h2⟩
  simp (disch := first | assumption | omega | exact Nat.le_of_ble_eq_true rfl) only [q_Tree_giveKey, q_Tree_giveKey_0, q_Tree_giveKey_1, q_Tree_giveKey_4, q_Tree_giveKey_7, q_Tree_giveKey_7n, q_Tree_giveKey_8, q_Tree_giveKey_11, q_Tree_giveKey_12, q_Tree_giveKey_13, q_Tree_giveKey_14, q_Tree_giveKey_14n, q_Tree_giveKey_15, q_Tree_giveKey_18, q_Tree_giveKey_19, q_Tree_giveKey_20, q_Tree_giveKey_21, Option.bind_some, Option.toList_some, Option.toList_none, List.cons_append, List.nil_append, zq_rf_some, zq_rf_none, ↓reduceIte, zq_lt, zq_le, zq_eq, nI_add, zq_up_s, zq_up_o, zq_up_k, zq_b_eq0, Nat.reduceEqDiff, Nat.reduceLeDiff, Nat.reduceLT, Nat.reduceAdd, not_true_eq_false, not_false_eq_true, Nat.not_lt_zero, zq_on_lt, zq_os, false_or, or_false, or_self, Bool.false_eq_true, nd, c, and_self, a2, a3, zx_u, zc_gk]
theorem c_blank (h : zc_tr g k sh P) {n : Nat} (h1 : 1 ≤ n) (h2 : n ≤ 15) : zq_C (d + 2) 71 [.ref (g + k), .int (nI n)] sh (zx g X I0) P nx kx = some (none, sh, zx g (zc_gk X k n 0) I0, P, nx, kx) := by
  have gk := c_giveKey (d := d) (nx := nx) (kx := kx) (X := X) (I0 := I0) (v := 0) h h1 h2
  have a1 := h.1
  simp (disch := first | assumption | omega | exact Nat.le_of_ble_eq_true rfl) only [q_Tree_blank, q_Tree_blank_0, q_Tree_blank_0n, q_Tree_blank_1, q_Tree_blank_2, q_Tree_blank_3, q_Tree_blank_6, Option.bind_some, Option.toList_some, Option.toList_none, List.cons_append, List.nil_append, zq_rf_some, zq_rf_none, ↓reduceIte, zq_lt, zq_le, zq_eq, nI_add, zq_up_s, zq_up_o, zq_up_k, zq_b_eq0, Nat.reduceEqDiff, Nat.reduceLeDiff, Nat.reduceLT, Nat.reduceAdd, not_true_eq_false, not_false_eq_true, Nat.not_lt_zero, zq_on_lt, zq_os, false_or, or_false, or_self, Bool.false_eq_true, gk]
end MC
def zc_bA (k : Nat) : Nat → Nat → (Nat → Nat → Nat) → (Nat → Nat → Nat)
  | 0, _, X => X
  | c + 1, n, X => if n = 0 then X else zc_bA k c (n / 2) (zc_gk X k n 0)
theorem c_blankAbove_go {d nx kx g k : Nat} {sh : zq_S} {P : zq_P} {I0 : zq_I} (h : zc_tr g k sh P) {l1 : Option Value} : ∀ (c n : Nat) (X : Nat → Nat → Nat), n < 2 ^ c → n < 16 → zq_F (d + 3) 72 5 [some (.ref (g + k)), l1, some (.int (nI n))] [] sh (zx g X I0) P nx kx = some (none, sh, zx g (zc_bA k c n X) I0, P, nx, kx)
  | 0, n, X, hn, h2 => by
    have h3 : n = 0 := by omega
    subst h3
    rw [q_Tree_blankAbove_5]
    simp (disch := first | assumption | omega | exact Nat.le_of_ble_eq_true rfl) only [q_Tree_blankAbove_0, q_Tree_blankAbove_1, q_Tree_blankAbove_4, q_Tree_blankAbove_6, q_Tree_blankAbove_7, q_Tree_blankAbove_10, q_Tree_blankAbove_10n, q_Tree_blankAbove_11, q_Tree_blankAbove_12, q_Tree_blankAbove_15, q_Tree_blankAbove_16, q_Tree_blankAbove_19, q_Tree_blankAbove_20, q_Tree_blankAbove_23, Option.bind_some, Option.toList_some, Option.toList_none, List.cons_append, List.nil_append, zq_rf_some, zq_rf_none, ↓reduceIte, zq_lt, zq_le, zq_eq, nI_add, zq_up_s, zq_up_o, zq_up_k, zq_b_eq0, Nat.reduceEqDiff, Nat.reduceLeDiff, Nat.reduceLT, Nat.reduceAdd, not_true_eq_false, not_false_eq_true, Nat.not_lt_zero, zq_on_lt, zq_os, false_or, or_false, or_self, Bool.false_eq_true, zc_bA]
  | c + 1, n, X, hn, h2 => by
    by_cases h3 : n = 0
    · subst h3
      rw [q_Tree_blankAbove_5]
      simp (disch := first | assumption | omega | exact Nat.le_of_ble_eq_true rfl) only [q_Tree_blankAbove_0, q_Tree_blankAbove_1, q_Tree_blankAbove_4, q_Tree_blankAbove_6, q_Tree_blankAbove_7, q_Tree_blankAbove_10, q_Tree_blankAbove_10n, q_Tree_blankAbove_11, q_Tree_blankAbove_12, q_Tree_blankAbove_15, q_Tree_blankAbove_16, q_Tree_blankAbove_19, q_Tree_blankAbove_20, q_Tree_blankAbove_23, Option.bind_some, Option.toList_some, Option.toList_none, List.cons_append, List.nil_append, zq_rf_some, zq_rf_none, ↓reduceIte, zq_lt, zq_le, zq_eq, nI_add, zq_up_s, zq_up_o, zq_up_k, zq_b_eq0, Nat.reduceEqDiff, Nat.reduceLeDiff, Nat.reduceLT, Nat.reduceAdd, not_true_eq_false, not_false_eq_true, Nat.not_lt_zero, zq_on_lt, zq_os, false_or, or_false, or_self, Bool.false_eq_true, zc_bA]
    · have ih := c_blankAbove_go (d := d) (nx := nx) (kx := kx) (I0 := I0) (l1 := l1) h c (n / 2) (zc_gk X k n 0) (by rw [Nat.pow_succ] at hn; omega) (by omega)
      have bl := c_blank (d := d) (nx := nx) (kx := kx) (X := X) (I0 := I0) h (n := n) (by omega) (by omega)
      have pa := m_parentOf (d := d + 2) (nx := nx) (kx := kx) (sh := sh) (I := zx g (zc_gk X k n 0) I0) (P := P) n (by omega)
      have a1 := h.1
      have h4 : ¬ n < 1 := by omega
      rw [q_Tree_blankAbove_5]
      simp (disch := first | assumption | omega | exact Nat.le_of_ble_eq_true rfl) only [q_Tree_blankAbove_0, q_Tree_blankAbove_1, q_Tree_blankAbove_4, q_Tree_blankAbove_6, q_Tree_blankAbove_7, q_Tree_blankAbove_10, q_Tree_blankAbove_10n, q_Tree_blankAbove_11, q_Tree_blankAbove_12, q_Tree_blankAbove_15, q_Tree_blankAbove_16, q_Tree_blankAbove_19, q_Tree_blankAbove_20, q_Tree_blankAbove_23, Option.bind_some, Option.toList_some, Option.toList_none, List.cons_append, List.nil_append, zq_rf_some, zq_rf_none, ↓reduceIte, zq_lt, zq_le, zq_eq, nI_add, zq_up_s, zq_up_o, zq_up_k, zq_b_eq0, Nat.reduceEqDiff, Nat.reduceLeDiff, Nat.reduceLT, Nat.reduceAdd, not_true_eq_false, not_false_eq_true, Nat.not_lt_zero, zq_on_lt, zq_os, false_or, or_false, or_self, Bool.false_eq_true, zc_bA, h3, h4, bl, pa, ih]
theorem c_blankAbove {d nx kx g k : Nat} {sh : zq_S} {P : zq_P} {X : Nat → Nat → Nat} {I0 : zq_I} (h : zc_tr g k sh P) {n : Nat} (hn : n < 16) : zq_C (d + 3) 72 [.ref (g + k), .int (nI n)] sh (zx g X I0) P nx kx = some (none, sh, zx g (zc_bA k 3 (n / 2) X) I0, P, nx, kx) := by
  have go := c_blankAbove_go (d := d) (nx := nx) (kx := kx) (I0 := I0) (l1 := some (.int (nI n))) h 3 (n / 2) X (by omega) (by omega)
  have pa := m_parentOf (d := d + 2) (nx := nx) (kx := kx) (sh := sh) (I := zx g X I0) (P := P) n (by omega)
  simp (disch := first | assumption | omega | exact Nat.le_of_ble_eq_true rfl) only [q_Tree_blankAbove, q_Tree_blankAbove_0, q_Tree_blankAbove_1, q_Tree_blankAbove_4, q_Tree_blankAbove_6, q_Tree_blankAbove_7, q_Tree_blankAbove_10, q_Tree_blankAbove_10n, q_Tree_blankAbove_11, q_Tree_blankAbove_12, q_Tree_blankAbove_15, q_Tree_blankAbove_16, q_Tree_blankAbove_19, q_Tree_blankAbove_20, q_Tree_blankAbove_23, Option.bind_some, Option.toList_some, Option.toList_none, List.cons_append, List.nil_append, zq_rf_some, zq_rf_none, ↓reduceIte, zq_lt, zq_le, zq_eq, nI_add, zq_up_s, zq_up_o, zq_up_k, zq_b_eq0, Nat.reduceEqDiff, Nat.reduceLeDiff, Nat.reduceLT, Nat.reduceAdd, not_true_eq_false, not_false_eq_true, Nat.not_lt_zero, zq_on_lt, zq_os, false_or, or_false, or_self, Bool.false_eq_true, pa, go]
def zc_mk (k l : Nat) : Nat → Nat → (Nat → Nat → Nat) → (Nat → Nat → Nat)
  | 0, _, X => X
  | c + 1, n, X => if n = 0 then X else zc_mk k l c (n / 2) (if X (k + 1) n = 0 then X else zq_up X (k + 2) n (X (k + 2) n ||| 2 ^ l))
theorem c_mark_go {d nx kx g k l : Nat} {sh : zq_S} {P : zq_P} {I0 : zq_I} (h : zc_tr g k sh P) (hl : l < 8) : ∀ (c n : Nat) (X : Nat → Nat → Nat), zr_bd X → n < 2 ^ c → n < 16 → zq_F (d + 3) 73 8 [some (.ref (g + k)), some (.int (nI l)), some (.int (nI n))] [] sh (zx g X I0) P nx kx = some (none, sh, zx g (zc_mk k l c n X) I0, P, nx, kx)
  | 0, n, X, hX, hn, h2 => by
    have h3 : n = 0 := by omega
    subst h3
    rw [q_Tree_markUnmergedAbove_8]
    simp (disch := first | assumption | omega | exact Nat.le_of_ble_eq_true rfl) only [q_Tree_markUnmergedAbove_0, q_Tree_markUnmergedAbove_1, q_Tree_markUnmergedAbove_4, q_Tree_markUnmergedAbove_7, q_Tree_markUnmergedAbove_9, q_Tree_markUnmergedAbove_10, q_Tree_markUnmergedAbove_13, q_Tree_markUnmergedAbove_13n, q_Tree_markUnmergedAbove_14, q_Tree_markUnmergedAbove_15, q_Tree_markUnmergedAbove_18, q_Tree_markUnmergedAbove_21, q_Tree_markUnmergedAbove_21n, q_Tree_markUnmergedAbove_22, q_Tree_markUnmergedAbove_25, q_Tree_markUnmergedAbove_26, q_Tree_markUnmergedAbove_27, q_Tree_markUnmergedAbove_28, q_Tree_markUnmergedAbove_29, q_Tree_markUnmergedAbove_30, q_Tree_markUnmergedAbove_31, q_Tree_markUnmergedAbove_32, q_Tree_markUnmergedAbove_33, q_Tree_markUnmergedAbove_34, q_Tree_markUnmergedAbove_37, q_Tree_markUnmergedAbove_38, q_Tree_markUnmergedAbove_41, Option.bind_some, Option.toList_some, Option.toList_none, List.cons_append, List.nil_append, zq_rf_some, zq_rf_none, ↓reduceIte, zq_lt, zq_le, zq_eq, nI_add, zq_up_s, zq_up_o, zq_up_k, zq_b_eq0, Nat.reduceEqDiff, Nat.reduceLeDiff, Nat.reduceLT, Nat.reduceAdd, not_true_eq_false, not_false_eq_true, Nat.not_lt_zero, zq_on_lt, zq_os, false_or, or_false, or_self, Bool.false_eq_true, zc_mk]
  | c + 1, n, X, hX, hn, h2 => by
    by_cases h3 : n = 0
    · subst h3
      rw [q_Tree_markUnmergedAbove_8]
      simp (disch := first | assumption | omega | exact Nat.le_of_ble_eq_true rfl) only [q_Tree_markUnmergedAbove_0, q_Tree_markUnmergedAbove_1, q_Tree_markUnmergedAbove_4, q_Tree_markUnmergedAbove_7, q_Tree_markUnmergedAbove_9, q_Tree_markUnmergedAbove_10, q_Tree_markUnmergedAbove_13, q_Tree_markUnmergedAbove_13n, q_Tree_markUnmergedAbove_14, q_Tree_markUnmergedAbove_15, q_Tree_markUnmergedAbove_18, q_Tree_markUnmergedAbove_21, q_Tree_markUnmergedAbove_21n, q_Tree_markUnmergedAbove_22, q_Tree_markUnmergedAbove_25, q_Tree_markUnmergedAbove_26, q_Tree_markUnmergedAbove_27, q_Tree_markUnmergedAbove_28, q_Tree_markUnmergedAbove_29, q_Tree_markUnmergedAbove_30, q_Tree_markUnmergedAbove_31, q_Tree_markUnmergedAbove_32, q_Tree_markUnmergedAbove_33, q_Tree_markUnmergedAbove_34, q_Tree_markUnmergedAbove_37, q_Tree_markUnmergedAbove_38, q_Tree_markUnmergedAbove_41, Option.bind_some, Option.toList_some, Option.toList_none, List.cons_append, List.nil_append, zq_rf_some, zq_rf_none, ↓reduceIte, zq_lt, zq_le, zq_eq, nI_add, zq_up_s, zq_up_o, zq_up_k, zq_b_eq0, Nat.reduceEqDiff, Nat.reduceLeDiff, Nat.reduceLT, Nat.reduceAdd, not_true_eq_false, not_false_eq_true, Nat.not_lt_zero, zq_on_lt, zq_os, false_or, or_false, or_self, Bool.false_eq_true, zc_mk]
    · have hp : n / 2 < 2 ^ c := by rw [Nat.pow_succ] at hn; omega
      have bl := c_isBlank (d := d) (nx := nx) (kx := kx) (X := X) (I0 := I0) h hX (n := n) (by omega) (by omega)
      obtain ⟨a1, a2, a3, a4, a5, a6, a7, a8⟩ := id h
      have h4 : ¬ n < 1 := by omega
      by_cases c1 : X (k + 1) n = 0
      · have ih := c_mark_go (d := d) (nx := nx) (kx := kx) (I0 := I0) h hl c (n / 2) X hX hp (by omega)
        have pa := m_parentOf (d := d + 2) (nx := nx) (kx := kx) (sh := sh) (I := zx g X I0) (P := P) n (by omega)
        rw [q_Tree_markUnmergedAbove_8]
        simp (disch := first | assumption | omega | exact Nat.le_of_ble_eq_true rfl) only [q_Tree_markUnmergedAbove_0, q_Tree_markUnmergedAbove_1, q_Tree_markUnmergedAbove_4, q_Tree_markUnmergedAbove_7, q_Tree_markUnmergedAbove_9, q_Tree_markUnmergedAbove_10, q_Tree_markUnmergedAbove_13, q_Tree_markUnmergedAbove_13n, q_Tree_markUnmergedAbove_14, q_Tree_markUnmergedAbove_15, q_Tree_markUnmergedAbove_18, q_Tree_markUnmergedAbove_21, q_Tree_markUnmergedAbove_21n, q_Tree_markUnmergedAbove_22, q_Tree_markUnmergedAbove_25, q_Tree_markUnmergedAbove_26, q_Tree_markUnmergedAbove_27, q_Tree_markUnmergedAbove_28, q_Tree_markUnmergedAbove_29, q_Tree_markUnmergedAbove_30, q_Tree_markUnmergedAbove_31, q_Tree_markUnmergedAbove_32, q_Tree_markUnmergedAbove_33, q_Tree_markUnmergedAbove_34, q_Tree_markUnmergedAbove_37, q_Tree_markUnmergedAbove_38, q_Tree_markUnmergedAbove_41, Option.bind_some, Option.toList_some, Option.toList_none, List.cons_append, List.nil_append, zq_rf_some, zq_rf_none, ↓reduceIte, zq_lt, zq_le, zq_eq, nI_add, zq_up_s, zq_up_o, zq_up_k, zq_b_eq0, Nat.reduceEqDiff, Nat.reduceLeDiff, Nat.reduceLT, Nat.reduceAdd, not_true_eq_false, not_false_eq_true, Nat.not_lt_zero, zq_on_lt, zq_os, false_or, or_false, or_self, Bool.false_eq_true, zc_mk, h3, h4, bl, c1, pa, ih]
      · have ih := c_mark_go (d := d) (nx := nx) (kx := kx) (I0 := I0) h hl c (n / 2) (zq_up X (k + 2) n (X (k + 2) n ||| 2 ^ l)) (hX.up (hX.or (by omega))) hp (by omega)
        have pa := m_parentOf (d := d + 2) (nx := nx) (kx := kx) (sh := sh) (I := zx g (zq_up X (k + 2) n (X (k + 2) n ||| 2 ^ l)) I0) (P := P) n (by omega)
        rw [q_Tree_markUnmergedAbove_8]
        simp (disch := first | assumption | omega | exact Nat.le_of_ble_eq_true rfl) only [q_Tree_markUnmergedAbove_0, q_Tree_markUnmergedAbove_1, q_Tree_markUnmergedAbove_4, q_Tree_markUnmergedAbove_7, q_Tree_markUnmergedAbove_9, q_Tree_markUnmergedAbove_10, q_Tree_markUnmergedAbove_13, q_Tree_markUnmergedAbove_13n, q_Tree_markUnmergedAbove_14, q_Tree_markUnmergedAbove_15, q_Tree_markUnmergedAbove_18, q_Tree_markUnmergedAbove_21, q_Tree_markUnmergedAbove_21n, q_Tree_markUnmergedAbove_22, q_Tree_markUnmergedAbove_25, q_Tree_markUnmergedAbove_26, q_Tree_markUnmergedAbove_27, q_Tree_markUnmergedAbove_28, q_Tree_markUnmergedAbove_29, q_Tree_markUnmergedAbove_30, q_Tree_markUnmergedAbove_31, q_Tree_markUnmergedAbove_32, q_Tree_markUnmergedAbove_33, q_Tree_markUnmergedAbove_34, q_Tree_markUnmergedAbove_37, q_Tree_markUnmergedAbove_38, q_Tree_markUnmergedAbove_41, Option.bind_some, Option.toList_some, Option.toList_none, List.cons_append, List.nil_append, zq_rf_some, zq_rf_none, ↓reduceIte, zq_lt, zq_le, zq_eq, nI_add, zq_up_s, zq_up_o, zq_up_k, zq_b_eq0, Nat.reduceEqDiff, Nat.reduceLeDiff, Nat.reduceLT, Nat.reduceAdd, not_true_eq_false, not_false_eq_true, Nat.not_lt_zero, zq_on_lt, zq_os, false_or, or_false, or_self, Bool.false_eq_true, zc_mk, h3, h4, bl, c1, a3, zx_n, zq_shl1, zq_or, zx_u, pa, ih]
theorem c_mark {d nx kx g k l : Nat} {sh : zq_S} {P : zq_P} {X : Nat → Nat → Nat} {I0 : zq_I} (h : zc_tr g k sh P) (hX : zr_bd X) (hl : l < 8) : zq_C (d + 3) 73 [.ref (g + k), .int (nI l)] sh (zx g X I0) P nx kx = some (none, sh, zx g (zc_mk k l 3 ((8 + l) / 2) X) I0, P, nx, kx) := by
  have go := c_mark_go (d := d) (nx := nx) (kx := kx) (I0 := I0) h hl 3 ((8 + l) / 2) X hX (by omega) (by omega)
  have nl := m_nodeOfLeaf (d := d + 2) (nx := nx) (kx := kx) (sh := sh) (I := zx g X I0) (P := P) l
  have pa := m_parentOf (d := d + 2) (nx := nx) (kx := kx) (sh := sh) (I := zx g X I0) (P := P) (8 + l) (by omega)
  simp (disch := first | assumption | omega | exact Nat.le_of_ble_eq_true rfl) only [q_Tree_markUnmergedAbove, q_Tree_markUnmergedAbove_0, q_Tree_markUnmergedAbove_1, q_Tree_markUnmergedAbove_4, q_Tree_markUnmergedAbove_7, q_Tree_markUnmergedAbove_9, q_Tree_markUnmergedAbove_10, q_Tree_markUnmergedAbove_13, q_Tree_markUnmergedAbove_13n, q_Tree_markUnmergedAbove_14, q_Tree_markUnmergedAbove_15, q_Tree_markUnmergedAbove_18, q_Tree_markUnmergedAbove_21, q_Tree_markUnmergedAbove_21n, q_Tree_markUnmergedAbove_22, q_Tree_markUnmergedAbove_25, q_Tree_markUnmergedAbove_26, q_Tree_markUnmergedAbove_27, q_Tree_markUnmergedAbove_28, q_Tree_markUnmergedAbove_29, q_Tree_markUnmergedAbove_30, q_Tree_markUnmergedAbove_31, q_Tree_markUnmergedAbove_32, q_Tree_markUnmergedAbove_33, q_Tree_markUnmergedAbove_34, q_Tree_markUnmergedAbove_37, q_Tree_markUnmergedAbove_38, q_Tree_markUnmergedAbove_41, Option.bind_some, Option.toList_some, Option.toList_none, List.cons_append, List.nil_append, zq_rf_some, zq_rf_none, ↓reduceIte, zq_lt, zq_le, zq_eq, nI_add, zq_up_s, zq_up_o, zq_up_k, zq_b_eq0, Nat.reduceEqDiff, Nat.reduceLeDiff, Nat.reduceLT, Nat.reduceAdd, not_true_eq_false, not_false_eq_true, Nat.not_lt_zero, zq_on_lt, zq_os, false_or, or_false, or_self, Bool.false_eq_true, nl, pa, go]
def zc_lb (X : Nat → Nat → Nat) (k : Nat) : Nat → Nat → Nat
  | 0, l => l
  | c + 1, l => if X (k + 1) (8 + l) = 0 then l else zc_lb X k c (l + 1)
theorem c_least_go {d nx kx g k : Nat} {sh : zq_S} {P : zq_P} {X : Nat → Nat → Nat} {I0 : zq_I} (h : zc_tr g k sh P) (hX : zr_bd X) : ∀ (c l : Nat), l + c = 8 → zq_F (d + 3) 74 2 [some (.ref (g + k)), some (.int (nI l))] [] sh (zx g X I0) P nx kx = some (some (.int (nI (zc_lb X k c l))), sh, zx g X I0, P, nx, kx)
  | 0, l, hl => by
    have h1 : 8 ≤ l := by omega
    rw [q_Tree_leastBlankLeaf_2]
    simp (disch := first | assumption | omega | exact Nat.le_of_ble_eq_true rfl) only [q_Tree_leastBlankLeaf_0, q_Tree_leastBlankLeaf_1, q_Tree_leastBlankLeaf_3, q_Tree_leastBlankLeaf_5, q_Tree_leastBlankLeaf_8, q_Tree_leastBlankLeaf_8n, q_Tree_leastBlankLeaf_9, q_Tree_leastBlankLeaf_10, q_Tree_leastBlankLeaf_13, q_Tree_leastBlankLeaf_16, q_Tree_leastBlankLeaf_19, q_Tree_leastBlankLeaf_22, q_Tree_leastBlankLeaf_25, q_Tree_leastBlankLeaf_26, Option.bind_some, Option.toList_some, Option.toList_none, List.cons_append, List.nil_append, zq_rf_some, zq_rf_none, ↓reduceIte, zq_lt, zq_le, zq_eq, nI_add, zq_up_s, zq_up_o, zq_up_k, zq_b_eq0, Nat.reduceEqDiff, Nat.reduceLeDiff, Nat.reduceLT, Nat.reduceAdd, not_true_eq_false, not_false_eq_true, Nat.not_lt_zero, zq_on_lt, zq_os, false_or, or_false, or_self, Bool.false_eq_true, h1, zc_lb]
  | c + 1, l, hl => by
    have h1 : ¬ 8 ≤ l := by omega
    have ih := c_least_go (d := d) (nx := nx) (kx := kx) (I0 := I0) h hX c (l + 1) (by omega)
    have nl := m_nodeOfLeaf (d := d + 2) (nx := nx) (kx := kx) (sh := sh) (I := zx g X I0) (P := P) l
    have bl := c_isBlank (d := d) (nx := nx) (kx := kx) (X := X) (I0 := I0) h hX (n := 8 + l) (by omega) (by omega)
    have a1 := h.1
    by_cases c1 : X (k + 1) (8 + l) = 0
    · rw [q_Tree_leastBlankLeaf_2]
      simp (disch := first | assumption | omega | exact Nat.le_of_ble_eq_true rfl) only [q_Tree_leastBlankLeaf_0, q_Tree_leastBlankLeaf_1, q_Tree_leastBlankLeaf_3, q_Tree_leastBlankLeaf_5, q_Tree_leastBlankLeaf_8, q_Tree_leastBlankLeaf_8n, q_Tree_leastBlankLeaf_9, q_Tree_leastBlankLeaf_10, q_Tree_leastBlankLeaf_13, q_Tree_leastBlankLeaf_16, q_Tree_leastBlankLeaf_19, q_Tree_leastBlankLeaf_22, q_Tree_leastBlankLeaf_25, q_Tree_leastBlankLeaf_26, Option.bind_some, Option.toList_some, Option.toList_none, List.cons_append, List.nil_append, zq_rf_some, zq_rf_none, ↓reduceIte, zq_lt, zq_le, zq_eq, nI_add, zq_up_s, zq_up_o, zq_up_k, zq_b_eq0, Nat.reduceEqDiff, Nat.reduceLeDiff, Nat.reduceLT, Nat.reduceAdd, not_true_eq_false, not_false_eq_true, Nat.not_lt_zero, zq_on_lt, zq_os, false_or, or_false, or_self, Bool.false_eq_true, h1, zc_lb, nl, bl, c1]
    · rw [q_Tree_leastBlankLeaf_2]
      simp (disch := first | assumption | omega | exact Nat.le_of_ble_eq_true rfl) only [q_Tree_leastBlankLeaf_0, q_Tree_leastBlankLeaf_1, q_Tree_leastBlankLeaf_3, q_Tree_leastBlankLeaf_5, q_Tree_leastBlankLeaf_8, q_Tree_leastBlankLeaf_8n, q_Tree_leastBlankLeaf_9, q_Tree_leastBlankLeaf_10, q_Tree_leastBlankLeaf_13, q_Tree_leastBlankLeaf_16, q_Tree_leastBlankLeaf_19, q_Tree_leastBlankLeaf_22, q_Tree_leastBlankLeaf_25, q_Tree_leastBlankLeaf_26, Option.bind_some, Option.toList_some, Option.toList_none, List.cons_append, List.nil_append, zq_rf_some, zq_rf_none, ↓reduceIte, zq_lt, zq_le, zq_eq, nI_add, zq_up_s, zq_up_o, zq_up_k, zq_b_eq0, Nat.reduceEqDiff, Nat.reduceLeDiff, Nat.reduceLT, Nat.reduceAdd, not_true_eq_false, not_false_eq_true, Nat.not_lt_zero, zq_on_lt, zq_os, false_or, or_false, or_self, Bool.false_eq_true, h1, zc_lb, nl, bl, c1, ih]
theorem c_least {d nx kx g k : Nat} {sh : zq_S} {P : zq_P} {X : Nat → Nat → Nat} {I0 : zq_I} (h : zc_tr g k sh P) (hX : zr_bd X) : zq_C (d + 3) 74 [.ref (g + k)] sh (zx g X I0) P nx kx = some (some (.int (nI (zc_lb X k 8 0))), sh, zx g X I0, P, nx, kx) := by
  have go := c_least_go (d := d) (nx := nx) (kx := kx) (I0 := I0) h hX 8 0 rfl
  simp (disch := first | assumption | omega | exact Nat.le_of_ble_eq_true rfl) only [q_Tree_leastBlankLeaf, q_Tree_leastBlankLeaf_0, q_Tree_leastBlankLeaf_1, q_Tree_leastBlankLeaf_3, q_Tree_leastBlankLeaf_5, q_Tree_leastBlankLeaf_8, q_Tree_leastBlankLeaf_8n, q_Tree_leastBlankLeaf_9, q_Tree_leastBlankLeaf_10, q_Tree_leastBlankLeaf_13, q_Tree_leastBlankLeaf_16, q_Tree_leastBlankLeaf_19, q_Tree_leastBlankLeaf_22, q_Tree_leastBlankLeaf_25, q_Tree_leastBlankLeaf_26, Option.bind_some, Option.toList_some, Option.toList_none, List.cons_append, List.nil_append, zq_rf_some, zq_rf_none, ↓reduceIte, zq_lt, zq_le, zq_eq, nI_add, zq_up_s, zq_up_o, zq_up_k, zq_b_eq0, Nat.reduceEqDiff, Nat.reduceLeDiff, Nat.reduceLT, Nat.reduceAdd, not_true_eq_false, not_false_eq_true, Nat.not_lt_zero, zq_on_lt, zq_os, false_or, or_false, or_self, Bool.false_eq_true, go]
def zc_ul (X : Nat → Nat → Nat) (k : Nat) : Nat → Nat → Nat
  | 0, _ => 0
  | c + 1, l => (if X (k + 1) (8 + l) = 0 then 0 else 1) + zc_ul X k c (l + 1)
theorem c_used_go {d nx kx g k : Nat} {sh : zq_S} {P : zq_P} {X : Nat → Nat → Nat} {I0 : zq_I} (h : zc_tr g k sh P) (hX : zr_bd X) : ∀ (c l n : Nat), l + c = 8 → zq_F (d + 3) 75 4 [some (.ref (g + k)), some (.int (nI n)), some (.int (nI l))] [] sh (zx g X I0) P nx kx = some (some (.int (nI (n + zc_ul X k c l))), sh, zx g X I0, P, nx, kx)
  | 0, l, n, hl => by
    have h1 : 8 ≤ l := by omega
    rw [q_Tree_usedLeaves_4]
    simp (disch := first | assumption | omega | exact Nat.le_of_ble_eq_true rfl) only [q_Tree_usedLeaves_0, q_Tree_usedLeaves_1, q_Tree_usedLeaves_2, q_Tree_usedLeaves_3, q_Tree_usedLeaves_5, q_Tree_usedLeaves_7, q_Tree_usedLeaves_10, q_Tree_usedLeaves_10n, q_Tree_usedLeaves_11, q_Tree_usedLeaves_12, q_Tree_usedLeaves_15, q_Tree_usedLeaves_18, q_Tree_usedLeaves_21, q_Tree_usedLeaves_24, q_Tree_usedLeaves_27, q_Tree_usedLeaves_30, q_Tree_usedLeaves_31, Option.bind_some, Option.toList_some, Option.toList_none, List.cons_append, List.nil_append, zq_rf_some, zq_rf_none, ↓reduceIte, zq_lt, zq_le, zq_eq, nI_add, zq_up_s, zq_up_o, zq_up_k, zq_b_eq0, Nat.reduceEqDiff, Nat.reduceLeDiff, Nat.reduceLT, Nat.reduceAdd, not_true_eq_false, not_false_eq_true, Nat.not_lt_zero, zq_on_lt, zq_os, false_or, or_false, or_self, Bool.false_eq_true, h1, zc_ul, Nat.add_zero]
  | c + 1, l, n, hl => by
    have h1 : ¬ 8 ≤ l := by omega
    have nl := m_nodeOfLeaf (d := d + 2) (nx := nx) (kx := kx) (sh := sh) (I := zx g X I0) (P := P) l
    have bl := c_isBlank (d := d) (nx := nx) (kx := kx) (X := X) (I0 := I0) h hX (n := 8 + l) (by omega) (by omega)
    have a1 := h.1
    by_cases c1 : X (k + 1) (8 + l) = 0
    · have ih := c_used_go (d := d) (nx := nx) (kx := kx) (I0 := I0) h hX c (l + 1) n (by omega)
      rw [q_Tree_usedLeaves_4]
      simp (disch := first | assumption | omega | exact Nat.le_of_ble_eq_true rfl) only [q_Tree_usedLeaves_0, q_Tree_usedLeaves_1, q_Tree_usedLeaves_2, q_Tree_usedLeaves_3, q_Tree_usedLeaves_5, q_Tree_usedLeaves_7, q_Tree_usedLeaves_10, q_Tree_usedLeaves_10n, q_Tree_usedLeaves_11, q_Tree_usedLeaves_12, q_Tree_usedLeaves_15, q_Tree_usedLeaves_18, q_Tree_usedLeaves_21, q_Tree_usedLeaves_24, q_Tree_usedLeaves_27, q_Tree_usedLeaves_30, q_Tree_usedLeaves_31, Option.bind_some, Option.toList_some, Option.toList_none, List.cons_append, List.nil_append, zq_rf_some, zq_rf_none, ↓reduceIte, zq_lt, zq_le, zq_eq, nI_add, zq_up_s, zq_up_o, zq_up_k, zq_b_eq0, Nat.reduceEqDiff, Nat.reduceLeDiff, Nat.reduceLT, Nat.reduceAdd, not_true_eq_false, not_false_eq_true, Nat.not_lt_zero, zq_on_lt, zq_os, false_or, or_false, or_self, Bool.false_eq_true, h1, zc_ul, nl, bl, c1, ih, Nat.zero_add]
    · have ih := c_used_go (d := d) (nx := nx) (kx := kx) (I0 := I0) h hX c (l + 1) (n + 1) (by omega)
      rw [q_Tree_usedLeaves_4]
      simp (disch := first | assumption | omega | exact Nat.le_of_ble_eq_true rfl) only [q_Tree_usedLeaves_0, q_Tree_usedLeaves_1, q_Tree_usedLeaves_2, q_Tree_usedLeaves_3, q_Tree_usedLeaves_5, q_Tree_usedLeaves_7, q_Tree_usedLeaves_10, q_Tree_usedLeaves_10n, q_Tree_usedLeaves_11, q_Tree_usedLeaves_12, q_Tree_usedLeaves_15, q_Tree_usedLeaves_18, q_Tree_usedLeaves_21, q_Tree_usedLeaves_24, q_Tree_usedLeaves_27, q_Tree_usedLeaves_30, q_Tree_usedLeaves_31, Option.bind_some, Option.toList_some, Option.toList_none, List.cons_append, List.nil_append, zq_rf_some, zq_rf_none, ↓reduceIte, zq_lt, zq_le, zq_eq, nI_add, zq_up_s, zq_up_o, zq_up_k, zq_b_eq0, Nat.reduceEqDiff, Nat.reduceLeDiff, Nat.reduceLT, Nat.reduceAdd, not_true_eq_false, not_false_eq_true, Nat.not_lt_zero, zq_on_lt, zq_os, false_or, or_false, or_self, Bool.false_eq_true, h1, zc_ul, nl, bl, c1, ih, Nat.add_assoc]
theorem c_used {d nx kx g k : Nat} {sh : zq_S} {P : zq_P} {X : Nat → Nat → Nat} {I0 : zq_I} (h : zc_tr g k sh P) (hX : zr_bd X) : zq_C (d + 3) 75 [.ref (g + k)] sh (zx g X I0) P nx kx = some (some (.int (nI (zc_ul X k 8 0))), sh, zx g X I0, P, nx, kx) := by
  have go := c_used_go (d := d) (nx := nx) (kx := kx) (I0 := I0) h hX 8 0 0 rfl
  rw [Nat.zero_add] at go
  simp (disch := first | assumption | omega | exact Nat.le_of_ble_eq_true rfl) only [q_Tree_usedLeaves, q_Tree_usedLeaves_0, q_Tree_usedLeaves_1, q_Tree_usedLeaves_2, q_Tree_usedLeaves_3, q_Tree_usedLeaves_5, q_Tree_usedLeaves_7, q_Tree_usedLeaves_10, q_Tree_usedLeaves_10n, q_Tree_usedLeaves_11, q_Tree_usedLeaves_12, q_Tree_usedLeaves_15, q_Tree_usedLeaves_18, q_Tree_usedLeaves_21, q_Tree_usedLeaves_24, q_Tree_usedLeaves_27, q_Tree_usedLeaves_30, q_Tree_usedLeaves_31, Option.bind_some, Option.toList_some, Option.toList_none, List.cons_append, List.nil_append, zq_rf_some, zq_rf_none, ↓reduceIte, zq_lt, zq_le, zq_eq, nI_add, zq_up_s, zq_up_o, zq_up_k, zq_b_eq0, Nat.reduceEqDiff, Nat.reduceLeDiff, Nat.reduceLT, Nat.reduceAdd, not_true_eq_false, not_false_eq_true, Nat.not_lt_zero, zq_on_lt, zq_os, false_or, or_false, or_self, Bool.false_eq_true, go]
def zc_cp (k q : Nat) : Nat → Nat → (Nat → Nat → Nat) → (Nat → Nat → Nat)
  | 0, _, X => X
  | c + 1, n, X => zc_cp k q c (n + 1) (zq_up (zq_up X (k + 1) n (X (q + 1) n)) (k + 2) n (X (q + 2) n))
theorem c_copy_go {d nx kx g k q : Nat} {sh : zq_S} {P : zq_P} {I0 : zq_I} (h : zc_tr g k sh P) (hq : zc_tr g q sh P) (hkq : q + 2 < k) : ∀ (c n : Nat) (X : Nat → Nat → Nat), n + c = 16 → 1 ≤ n → zq_F d 65 2 [some (.ref (g + k)), some (.ref (g + q)), some (.int (nI n))] [] sh (zx g X I0) P nx kx = some (none, sh, zx g (zc_cp k q c n X) I0, P, nx, kx)
  | 0, n, X, hn, h0 => by
    have h1 : 15 < n := by omega
    rw [q_Tree_copyFrom_2]
    simp (disch := first | assumption | omega | exact Nat.le_of_ble_eq_true rfl) only [q_Tree_copyFrom_0, q_Tree_copyFrom_1, q_Tree_copyFrom_3, q_Tree_copyFrom_5, q_Tree_copyFrom_8, q_Tree_copyFrom_8n, q_Tree_copyFrom_9, q_Tree_copyFrom_12, q_Tree_copyFrom_13, q_Tree_copyFrom_13n, q_Tree_copyFrom_14, q_Tree_copyFrom_17, q_Tree_copyFrom_18, q_Tree_copyFrom_19, q_Tree_copyFrom_20, q_Tree_copyFrom_20n, q_Tree_copyFrom_21, q_Tree_copyFrom_24, q_Tree_copyFrom_25, q_Tree_copyFrom_25n, q_Tree_copyFrom_26, q_Tree_copyFrom_29, q_Tree_copyFrom_30, q_Tree_copyFrom_31, q_Tree_copyFrom_32, q_Tree_copyFrom_35, q_Tree_copyFrom_38, Option.bind_some, Option.toList_some, Option.toList_none, List.cons_append, List.nil_append, zq_rf_some, zq_rf_none, ↓reduceIte, zq_lt, zq_le, zq_eq, nI_add, zq_up_s, zq_up_o, zq_up_k, zq_b_eq0, Nat.reduceEqDiff, Nat.reduceLeDiff, Nat.reduceLT, Nat.reduceAdd, not_true_eq_false, not_false_eq_true, Nat.not_lt_zero, zq_on_lt, zq_os, false_or, or_false, or_self, Bool.false_eq_true, h1, zc_cp]
  | c + 1, n, X, hn, h0 => by
    have h1 : ¬ 15 < n := by omega
    have ih := c_copy_go (d := d) (nx := nx) (kx := kx) (I0 := I0) h hq hkq c (n + 1) (zq_up (zq_up X (k + 1) n (X (q + 1) n)) (k + 2) n (X (q + 2) n)) (by omega) (by omega)
    obtain ⟨a1, a2, a3, a4, a5, a6, a7, a8⟩ := h
    obtain ⟨b1, b2, b3, b4, b5, b6, b7, b8⟩ := hq
    rw [q_Tree_copyFrom_2]
    simp (disch := first | assumption | omega | exact Nat.le_of_ble_eq_true rfl) only [q_Tree_copyFrom_0, q_Tree_copyFrom_1, q_Tree_copyFrom_3, q_Tree_copyFrom_5, q_Tree_copyFrom_8, q_Tree_copyFrom_8n, q_Tree_copyFrom_9, q_Tree_copyFrom_12, q_Tree_copyFrom_13, q_Tree_copyFrom_13n, q_Tree_copyFrom_14, q_Tree_copyFrom_17, q_Tree_copyFrom_18, q_Tree_copyFrom_19, q_Tree_copyFrom_20, q_Tree_copyFrom_20n, q_Tree_copyFrom_21, q_Tree_copyFrom_24, q_Tree_copyFrom_25, q_Tree_copyFrom_25n, q_Tree_copyFrom_26, q_Tree_copyFrom_29, q_Tree_copyFrom_30, q_Tree_copyFrom_31, q_Tree_copyFrom_32, q_Tree_copyFrom_35, q_Tree_copyFrom_38, Option.bind_some, Option.toList_some, Option.toList_none, List.cons_append, List.nil_append, zq_rf_some, zq_rf_none, ↓reduceIte, zq_lt, zq_le, zq_eq, nI_add, zq_up_s, zq_up_o, zq_up_k, zq_b_eq0, Nat.reduceEqDiff, Nat.reduceLeDiff, Nat.reduceLT, Nat.reduceAdd, not_true_eq_false, not_false_eq_true, Nat.not_lt_zero, zq_on_lt, zq_os, false_or, or_false, or_self, Bool.false_eq_true, h1, a2, a3, b2, b3, zx_n, zx_u, zc_cp, ih]
theorem c_copy {d nx kx g k q : Nat} {sh : zq_S} {P : zq_P} {X : Nat → Nat → Nat} {I0 : zq_I} (h : zc_tr g k sh P) (hq : zc_tr g q sh P) (hkq : q + 2 < k) : zq_C d 65 [.ref (g + k), .ref (g + q)] sh (zx g X I0) P nx kx = some (none, sh, zx g (zc_cp k q 15 1 X) I0, P, nx, kx) := by
  have go := c_copy_go (d := d) (nx := nx) (kx := kx) (I0 := I0) h hq hkq 15 1 X rfl (Nat.le_refl _)
  simp (disch := first | assumption | omega | exact Nat.le_of_ble_eq_true rfl) only [q_Tree_copyFrom, q_Tree_copyFrom_0, q_Tree_copyFrom_1, q_Tree_copyFrom_3, q_Tree_copyFrom_5, q_Tree_copyFrom_8, q_Tree_copyFrom_8n, q_Tree_copyFrom_9, q_Tree_copyFrom_12, q_Tree_copyFrom_13, q_Tree_copyFrom_13n, q_Tree_copyFrom_14, q_Tree_copyFrom_17, q_Tree_copyFrom_18, q_Tree_copyFrom_19, q_Tree_copyFrom_20, q_Tree_copyFrom_20n, q_Tree_copyFrom_21, q_Tree_copyFrom_24, q_Tree_copyFrom_25, q_Tree_copyFrom_25n, q_Tree_copyFrom_26, q_Tree_copyFrom_29, q_Tree_copyFrom_30, q_Tree_copyFrom_31, q_Tree_copyFrom_32, q_Tree_copyFrom_35, q_Tree_copyFrom_38, Option.bind_some, Option.toList_some, Option.toList_none, List.cons_append, List.nil_append, zq_rf_some, zq_rf_none, ↓reduceIte, zq_lt, zq_le, zq_eq, nI_add, zq_up_s, zq_up_o, zq_up_k, zq_b_eq0, Nat.reduceEqDiff, Nat.reduceLeDiff, Nat.reduceLT, Nat.reduceAdd, not_true_eq_false, not_false_eq_true, Nat.not_lt_zero, zq_on_lt, zq_os, false_or, or_false, or_self, Bool.false_eq_true, go]
