/-! NEW OBJECTS -/
theorem m_rowInit {d nx kx a len : Nat} {sh : zq_S} {I : zq_I} {P : zq_P} (ha : (sh a).1 = 104) (h : a < nx) (hl : len ≤ 1000000) : zq_C d 59 [.ref a, .int (nI len)] sh I P nx kx = some (none, zq_us sh nx (2, len), zq_row I nx 0, zq_up P a 0 (some nx), nx + 1, kx + len) := by
  simp (disch := first | assumption | omega | exact Nat.le_of_ble_eq_true rfl | (simp only [zq_us, if_true] <;> (repeat (first | rw [if_neg (by omega)] | rw [if_pos (by omega)])) <;> (first | assumption | rfl))) only [q_Row_init, q_Row_init_0, q_Row_init_0n, q_Row_init_1, q_Row_init_4, q_Row_init_4n, q_Row_init_5, q_Row_init_6, q_Row_init_8, q_Row_init_11, Option.bind_some, Option.toList_some, Option.toList_none, List.cons_append, List.nil_append, zq_rf_some, zq_rf_none, ↓reduceIte, zq_lt, zq_le, zq_eq, nI_add, zq_up_s, zq_up_o, zq_up_k, zq_b_eq0, Nat.reduceEqDiff, Nat.reduceLeDiff, Nat.reduceLT, Nat.reduceAdd, not_true_eq_false, not_false_eq_true, Nat.not_lt_zero, zq_on_lt, zq_os, false_or, or_false, or_self, Bool.false_eq_true]
theorem m_treeInit {d nx kx a : Nat} {sh : zq_S} {I : zq_I} {P : zq_P} (ha : (sh a).1 = 105) (h : a < nx) : zq_C d 64 [.ref a] sh I P nx kx = some (none, zq_us (zq_us sh nx (2, 16)) (nx + 1) (2, 16), zq_row (zq_row I nx 0) (nx + 1) 0, zq_up (zq_up P a 0 (some nx)) a 1 (some (nx + 1)), nx + 2, kx + 32) := by
  simp (disch := first | assumption | omega | exact Nat.le_of_ble_eq_true rfl | (simp only [zq_us, if_true] <;> (repeat (first | rw [if_neg (by omega)] | rw [if_pos (by omega)])) <;> (first | assumption | rfl))) only [q_Tree_init, q_Tree_init_0, q_Tree_init_0n, q_Tree_init_1, q_Tree_init_4, q_Tree_init_4n, q_Tree_init_5, q_Tree_init_7, q_Tree_init_9, q_Tree_init_12, q_Tree_init_12n, q_Tree_init_13, q_Tree_init_15, q_Tree_init_17, q_Tree_init_20, Option.bind_some, Option.toList_some, Option.toList_none, List.cons_append, List.nil_append, zq_rf_some, zq_rf_none, ↓reduceIte, zq_lt, zq_le, zq_eq, nI_add, zq_up_s, zq_up_o, zq_up_k, zq_b_eq0, Nat.reduceEqDiff, Nat.reduceLeDiff, Nat.reduceLT, Nat.reduceAdd, not_true_eq_false, not_false_eq_true, Nat.not_lt_zero, zq_on_lt, zq_os, false_or, or_false, or_self, Bool.false_eq_true, Nat.add_assoc]
theorem zx_row {g k : Nat} {X : (Nat → Nat → Nat)} {I0 : zq_I} (hk : k < 26 ∨ 45 ≤ k) (h0 : k ≠ 0) : zq_row (zx g X I0) (g + k) 0 = zx g (zq_row X k 0) I0 := by
  funext a j
  unfold zq_row zx
  by_cases ha : g ≤ a ∧ ¬ (g + 26 ≤ a ∧ a < g + 45)
  · by_cases h1 : a = g + k
    · subst h1
      rw [if_pos rfl, if_pos ha, Nat.add_sub_cancel_left]
      dsimp only
      rw [if_pos rfl]
      simp [xe, h0, nI_0]
    · rw [if_neg h1, if_pos ha, if_pos ha]
      dsimp only
      rw [if_neg (by omega)]
  · rw [if_neg (by omega), if_neg ha, if_neg ha]
def zc_new (X : (Nat → Nat → Nat)) (k c : Nat) : (Nat → Nat → Nat) := zq_row (zq_row (zq_row (zq_row (zq_up (zq_row (zq_row (zq_row (zq_row X k 0) (k + 1) 0) (k + 2) 0) (k + 3) 0) k 1 c) (k + 4) 0) (k + 5) 0) (k + 6) 0) (k + 7) 0
theorem zc_new_o {X : (Nat → Nat → Nat)} {k c a j : Nat} (h : a < k ∨ k + 8 ≤ a) : zc_new X k c a j = X a j := by
  unfold zc_new
  rw [zq_row_o (by omega), zq_row_o (by omega), zq_row_o (by omega), zq_row_o (by omega), zq_up_o (by omega), zq_row_o (by omega), zq_row_o (by omega), zq_row_o (by omega), zq_row_o (by omega)]
theorem zc_new_1 {X : (Nat → Nat → Nat)} {k c : Nat} : zc_new X k c k 1 = c := by
  unfold zc_new
  rw [zq_row_o (by omega), zq_row_o (by omega), zq_row_o (by omega), zq_row_o (by omega), zq_up_s]
theorem zc_new_z {X : (Nat → Nat → Nat)} {k c a j : Nat} (h : k ≤ a) (h2 : a < k + 8) (h3 : a ≠ k ∨ j ≠ 1) : zc_new X k c a j = 0 := by
  unfold zc_new zq_row zq_up
  have : a = k ∨ a = k + 1 ∨ a = k + 2 ∨ a = k + 3 ∨ a = k + 4 ∨ a = k + 5 ∨ a = k + 6 ∨ a = k + 7 := by omega
  rcases this with rfl | rfl | rfl | rfl | rfl | rfl | rfl | rfl <;> simp <;> omega
theorem zc_new_bd {X : (Nat → Nat → Nat)} (hX : zr_bd X) {k c : Nat} (hc : c < 65536) : zr_bd (zc_new X k c) := by
  intro a j
  by_cases h : a < k ∨ k + 8 ≤ a
  · rw [zc_new_o h]
    exact hX a j
  · by_cases h3 : a = k ∧ j = 1
    · obtain ⟨rfl, rfl⟩ := h3
      rw [zc_new_1]
      exact hc
    · rw [zc_new_z (by omega) (by omega) (by omega)]
      decide
def zc_nsh (sh : zq_S) (n : Nat) : zq_S := zq_us (zq_us (zq_us (zq_us (zq_us (zq_us (zq_us (zq_us sh n (101, 0)) (n + 1) (105, 0)) (n + 2) (2, 16)) (n + 3) (2, 16)) (n + 4) (104, 0)) (n + 5) (2, 16)) (n + 6) (104, 0)) (n + 7) (2, 16)
def zc_nP (P : zq_P) (n : Nat) : zq_P := zq_up (zq_up (zq_row (zq_up (zq_up (zq_row (zq_up (zq_up (zq_up (zq_row (zq_row P n none) (n + 1) none) (n + 1) 0 (some (n + 2))) (n + 1) 1 (some (n + 3))) n 0 (some (n + 1))) (n + 4) none) (n + 4) 0 (some (n + 5))) n 2 (some (n + 4))) (n + 6) none) (n + 6) 0 (some (n + 7))) n 3 (some (n + 6))
theorem m_epochInit {d kx n : Nat} {c : Int32} {sh : zq_S} {I : zq_I} {P : zq_P} : zq_C (d + 1) 43 [.ref n, .int c] (zq_us sh n (101, 0)) (zq_row I n 0) (zq_row P n none) (n + 1) kx = some (none, zc_nsh sh n, zq_row (zq_row (zq_row (zq_row (zq_up (zq_row (zq_row (zq_row (zq_row I n 0) (n + 1) 0) (n + 2) 0) (n + 3) 0) n 1 c) (n + 4) 0) (n + 5) 0) (n + 6) 0) (n + 7) 0, zc_nP P n, n + 8, kx + 70) := by
  unfold zc_nsh zc_nP
  simp (disch := first | assumption | omega | exact Nat.le_of_ble_eq_true rfl | (simp only [zq_us, if_true] <;> (repeat (first | rw [if_neg (by omega)] | rw [if_pos (by omega)])) <;> (first | assumption | rfl))) only [q_Epoch_init, q_Epoch_init_0, q_Epoch_init_0n, q_Epoch_init_1, q_Epoch_init_4, q_Epoch_init_4n, q_Epoch_init_5, q_Epoch_init_8, q_Epoch_init_8i, q_Epoch_init_9, q_Epoch_init_12, q_Epoch_init_15, q_Epoch_init_15n, q_Epoch_init_16, q_Epoch_init_17, q_Epoch_init_20, q_Epoch_init_20n, q_Epoch_init_21, q_Epoch_init_24, q_Epoch_init_24i, q_Epoch_init_25, q_Epoch_init_27, q_Epoch_init_30, q_Epoch_init_33, q_Epoch_init_33n, q_Epoch_init_34, q_Epoch_init_37, q_Epoch_init_37i, q_Epoch_init_38, q_Epoch_init_40, q_Epoch_init_43, q_Epoch_init_46, Option.bind_some, Option.toList_some, Option.toList_none, List.cons_append, List.nil_append, zq_rf_some, zq_rf_none, ↓reduceIte, zq_lt, zq_le, zq_eq, nI_add, zq_up_s, zq_up_o, zq_up_k, zq_b_eq0, Nat.reduceEqDiff, Nat.reduceLeDiff, Nat.reduceLT, Nat.reduceAdd, not_true_eq_false, not_false_eq_true, Nat.not_lt_zero, zq_on_lt, zq_os, false_or, or_false, or_self, Bool.false_eq_true, Nat.add_assoc, m_treeInit, m_rowInit]
theorem zc_nsh_o {sh : zq_S} {n a : Nat} (h : a < n) : zc_nsh sh n a = sh a := by
  unfold zc_nsh zq_us
  rw [if_neg (by omega), if_neg (by omega), if_neg (by omega), if_neg (by omega), if_neg (by omega), if_neg (by omega), if_neg (by omega), if_neg (by omega)]
theorem zc_nP_o {P : zq_P} {n a j : Nat} (h : a < n) : zc_nP P n a j = P a j := by
  unfold zc_nP
  rw [zq_up_o (by omega), zq_up_o (by omega), zq_row_o (by omega), zq_up_o (by omega), zq_up_o (by omega), zq_row_o (by omega), zq_up_o (by omega), zq_up_o (by omega), zq_up_o (by omega), zq_row_o (by omega), zq_row_o (by omega)]
theorem zc_n_ep {g k : Nat} {sh : zq_S} {P : zq_P} (hk : 45 ≤ k) : zc_ep g k (zc_nsh sh (g + k)) (zc_nP P (g + k)) := by
  unfold zc_ep zc_tr zc_rw zc_nsh zc_nP
  simp only [← Nat.add_assoc]
  refine ⟨?_, ?_, ?_, ?_, ⟨?_, ?_, ?_, ?_, ?_, ?_, ?_, by omega⟩, ⟨?_, ?_, ?_, ?_, by omega, by omega, by decide⟩, ⟨?_, ?_, ?_, ?_, by omega, by omega, by decide⟩, hk⟩ <;> simp [zq_us, zq_up, zq_row, Nat.add_assoc]
