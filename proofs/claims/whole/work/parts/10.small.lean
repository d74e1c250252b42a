/-! small methods -/
section M10
variable {d nx kx : Nat} {sh : zq_S} {I : zq_I} {P : zq_P}
theorem m_isNode (n : Nat) (hn : n < 2147483648) : zq_C d 21 [.int (nI n)] sh I P nx kx = some (some (.int (zq_b (1 ≤ n ∧ n ≤ 15))), sh, I, P, nx, kx) := by
  unfold zq_b
  by_cases h1 : n < 1
  · rw [if_neg (by omega)]
    simp (disch := first | assumption | omega | exact Nat.le_of_ble_eq_true rfl) only [q_G_isNode, q_G_isNode_0, q_G_isNode_1, q_G_isNode_2, q_G_isNode_5, q_G_isNode_6, q_G_isNode_8, q_G_isNode_11, q_G_isNode_12, q_G_isNode_15, q_G_isNode_16_0, q_G_isNode_16_1, q_G_isNode_16_b, Option.bind_some, Option.toList_some, Option.toList_none, List.cons_append, List.nil_append, zq_rf_some, zq_rf_none, ↓reduceIte, zq_lt, zq_le, zq_eq, nI_add, zq_up_s, zq_up_o, zq_up_k, zq_b_eq0, h1]
  · by_cases h2 : 15 < n
    · rw [if_neg (by omega)]
      simp (disch := first | assumption | omega | exact Nat.le_of_ble_eq_true rfl) only [q_G_isNode, q_G_isNode_0, q_G_isNode_1, q_G_isNode_2, q_G_isNode_5, q_G_isNode_6, q_G_isNode_8, q_G_isNode_11, q_G_isNode_12, q_G_isNode_15, q_G_isNode_16_0, q_G_isNode_16_1, q_G_isNode_16_b, Option.bind_some, Option.toList_some, Option.toList_none, List.cons_append, List.nil_append, zq_rf_some, zq_rf_none, ↓reduceIte, zq_lt, zq_le, zq_eq, nI_add, zq_up_s, zq_up_o, zq_up_k, zq_b_eq0, h1, h2]
    · rw [if_pos (by omega)]
      simp (disch := first | assumption | omega | exact Nat.le_of_ble_eq_true rfl) only [q_G_isNode, q_G_isNode_0, q_G_isNode_1, q_G_isNode_2, q_G_isNode_5, q_G_isNode_6, q_G_isNode_8, q_G_isNode_11, q_G_isNode_12, q_G_isNode_15, q_G_isNode_16_0, q_G_isNode_16_1, q_G_isNode_16_b, Option.bind_some, Option.toList_some, Option.toList_none, List.cons_append, List.nil_append, zq_rf_some, zq_rf_none, ↓reduceIte, zq_lt, zq_le, zq_eq, nI_add, zq_up_s, zq_up_o, zq_up_k, zq_b_eq0, h1, h2]
theorem m_nodeOfLeaf (n : Nat) : zq_C d 22 [.int (nI n)] sh I P nx kx = some (some (.int (nI (8 + n))), sh, I, P, nx, kx) := by
  simp (disch := first | assumption | omega | exact Nat.le_of_ble_eq_true rfl) only [q_G_nodeOfLeaf, q_G_nodeOfLeaf_0, q_G_nodeOfLeaf_2, q_G_nodeOfLeaf_3, q_G_nodeOfLeaf_4, Option.bind_some, Option.toList_some, Option.toList_none, List.cons_append, List.nil_append, zq_rf_some, zq_rf_none, ↓reduceIte, zq_lt, zq_le, zq_eq, nI_add, zq_up_s, zq_up_o, zq_up_k, zq_b_eq0]
theorem zq_shr1 {n : Nat} (h : n < 2147483648) : nI n >>> (nI 1 &&& 31) = nI (n / 2) := pk_shrN h (nI 1 &&& 31) 1 (by decide +kernel)
theorem m_parentOf (n : Nat) (h : n < 2147483648) : zq_C d 23 [.int (nI n)] sh I P nx kx = some (some (.int (nI (n / 2))), sh, I, P, nx, kx) := by
  simp (disch := first | assumption | omega | exact Nat.le_of_ble_eq_true rfl) only [q_G_parentOf, q_G_parentOf_0, q_G_parentOf_1, q_G_parentOf_2, q_G_parentOf_3, Option.bind_some, Option.toList_some, Option.toList_none, List.cons_append, List.nil_append, zq_rf_some, zq_rf_none, ↓reduceIte, zq_lt, zq_le, zq_eq, nI_add, zq_up_s, zq_up_o, zq_up_k, zq_b_eq0, zq_shr1]
theorem m_append {r a len n : Nat} {x : Int32} (hr : (sh r).1 = 104) (hp : P r 0 = some a) (ha : (sh a).1 = 2) (ha2 : (sh a).2 = len) (hn : I r 1 = nI n) (hl : n < 2147483648) (hl2 : len < 2147483648) : zq_C d 61 [.ref r, .int x] sh I P nx kx = some (none, sh, if n < len then zq_up (zq_up I a n x) r 1 (nI (n + 1)) else I, P, nx, kx) := by
  have hra : r ≠ a := fun h => by rw [h] at hr; omega
  by_cases h : n < len
  · have h' : ¬ len ≤ n := by omega
    simp (disch := first | assumption | omega | exact Nat.le_of_ble_eq_true rfl) only [q_Row_append, q_Row_append_0, q_Row_append_0n, q_Row_append_1, q_Row_append_4, q_Row_append_4n, q_Row_append_5, q_Row_append_8, q_Row_append_9, q_Row_append_12, q_Row_append_12n, q_Row_append_13, q_Row_append_16, q_Row_append_16n, q_Row_append_17, q_Row_append_20, q_Row_append_21, q_Row_append_22, q_Row_append_22n, q_Row_append_23, q_Row_append_23i, q_Row_append_24, q_Row_append_27, q_Row_append_28, q_Row_append_29, q_Row_append_32, Option.bind_some, Option.toList_some, Option.toList_none, List.cons_append, List.nil_append, zq_rf_some, zq_rf_none, ↓reduceIte, zq_lt, zq_le, zq_eq, nI_add, zq_up_s, zq_up_o, zq_up_k, zq_b_eq0, hp, ha2, hn, h, h']
  · have h' : len ≤ n := by omega
    simp (disch := first | assumption | omega | exact Nat.le_of_ble_eq_true rfl) only [q_Row_append, q_Row_append_0, q_Row_append_0n, q_Row_append_1, q_Row_append_4, q_Row_append_4n, q_Row_append_5, q_Row_append_8, q_Row_append_9, q_Row_append_12, q_Row_append_12n, q_Row_append_13, q_Row_append_16, q_Row_append_16n, q_Row_append_17, q_Row_append_20, q_Row_append_21, q_Row_append_22, q_Row_append_22n, q_Row_append_23, q_Row_append_23i, q_Row_append_24, q_Row_append_27, q_Row_append_28, q_Row_append_29, q_Row_append_32, Option.bind_some, Option.toList_some, Option.toList_none, List.cons_append, List.nil_append, zq_rf_some, zq_rf_none, ↓reduceIte, zq_lt, zq_le, zq_eq, nI_add, zq_up_s, zq_up_o, zq_up_k, zq_b_eq0, hp, ha2, hn, h, h']
theorem m_clear {r : Nat} (hr : (sh r).1 = 104) : zq_C d 60 [.ref r] sh I P nx kx = some (none, sh, zq_up I r 1 (nI 0), P, nx, kx) := by
  simp (disch := first | assumption | omega | exact Nat.le_of_ble_eq_true rfl) only [q_Row_clear, q_Row_clear_0, q_Row_clear_0n, q_Row_clear_1, q_Row_clear_2, q_Row_clear_5, Option.bind_some, Option.toList_some, Option.toList_none, List.cons_append, List.nil_append, zq_rf_some, zq_rf_none, ↓reduceIte, zq_lt, zq_le, zq_eq, nI_add, zq_up_s, zq_up_o, zq_up_k, zq_b_eq0]
theorem m_at {r a len n i : Nat} (hr : (sh r).1 = 104) (hp : P r 0 = some a) (ha : (sh a).1 = 2) (ha2 : (sh a).2 = len) (hn : I r 1 = nI n) (hl : n < 2147483648) (hi : i < n) (hl2 : n ≤ len) : zq_C d 62 [.ref r, .int (nI i)] sh I P nx kx = some (some (.int (I a i)), sh, I, P, nx, kx) := by
  have h0 : ¬ i < 0 := by omega
  have h1 : ¬ n ≤ i := by omega
  simp (disch := first | assumption | omega | exact Nat.le_of_ble_eq_true rfl) only [q_Row_at, q_Row_at_0, q_Row_at_1, q_Row_at_4, q_Row_at_5, q_Row_at_5n, q_Row_at_6, q_Row_at_9, q_Row_at_12, q_Row_at_12n, q_Row_at_13, q_Row_at_16, q_Row_at_17, q_Row_at_18, q_Row_at_21, q_Row_at_22, Option.bind_some, Option.toList_some, Option.toList_none, List.cons_append, List.nil_append, zq_rf_some, zq_rf_none, ↓reduceIte, zq_lt, zq_le, zq_eq, nI_add, zq_up_s, zq_up_o, zq_up_k, zq_b_eq0, hp, ha2, hn, hi, h0, h1]
theorem m_contains_go {r a len n : Nat} {x : Int32} (hr : (sh r).1 = 104) (hp : P r 0 = some a) (ha : (sh a).1 = 2) (ha2 : (sh a).2 = len) (hn : I r 1 = nI n) (hl : n < 2147483648) (hl2 : n ≤ len) : ∀ (k i : Nat), i + k = n → zq_F d 63 2 [some (.ref r), some (.int x), some (.int (nI i))] [] sh I P nx kx = some (some (.int (zq_b (∃ j, i ≤ j ∧ j < n ∧ I a j = x))), sh, I, P, nx, kx)
  | 0, i, h => by
    have h1 : n ≤ i := by omega
    rw [zq_b_f (by rintro ⟨j, h2, h3, -⟩; omega)]
    simp (disch := first | assumption | omega | exact Nat.le_of_ble_eq_true rfl) only [q_Row_contains_2, q_Row_contains_0, q_Row_contains_1, q_Row_contains_3, q_Row_contains_3n, q_Row_contains_4, q_Row_contains_7, q_Row_contains_10, q_Row_contains_10n, q_Row_contains_11, q_Row_contains_14, q_Row_contains_15, q_Row_contains_16, q_Row_contains_17, q_Row_contains_20, q_Row_contains_21_0, q_Row_contains_21_1, q_Row_contains_21_b, q_Row_contains_22, q_Row_contains_25, q_Row_contains_28, q_Row_contains_29_0, q_Row_contains_29_1, q_Row_contains_29_b, Option.bind_some, Option.toList_some, Option.toList_none, List.cons_append, List.nil_append, zq_rf_some, zq_rf_none, ↓reduceIte, zq_lt, zq_le, zq_eq, nI_add, zq_up_s, zq_up_o, zq_up_k, zq_b_eq0, hn, h1]
  | k + 1, i, h => by
    have h1 : ¬ n ≤ i := by omega
    by_cases hx : I a i = x
    · rw [zq_b_t ⟨i, by omega, by omega, hx⟩]
      simp (disch := first | assumption | omega | exact Nat.le_of_ble_eq_true rfl) only [q_Row_contains_2, q_Row_contains_0, q_Row_contains_1, q_Row_contains_3, q_Row_contains_3n, q_Row_contains_4, q_Row_contains_7, q_Row_contains_10, q_Row_contains_10n, q_Row_contains_11, q_Row_contains_14, q_Row_contains_15, q_Row_contains_16, q_Row_contains_17, q_Row_contains_20, q_Row_contains_21_0, q_Row_contains_21_1, q_Row_contains_21_b, q_Row_contains_22, q_Row_contains_25, q_Row_contains_28, q_Row_contains_29_0, q_Row_contains_29_1, q_Row_contains_29_b, Option.bind_some, Option.toList_some, Option.toList_none, List.cons_append, List.nil_append, zq_rf_some, zq_rf_none, ↓reduceIte, zq_lt, zq_le, zq_eq, nI_add, zq_up_s, zq_up_o, zq_up_k, zq_b_eq0, hn, h1, hp, hx, not_true, ne_eq]
    · have ih := m_contains_go (d := d) (nx := nx) (kx := kx) (x := x) hr hp ha ha2 hn hl hl2 k (i + 1) (by omega)
      simp (disch := first | assumption | omega | exact Nat.le_of_ble_eq_true rfl) only [q_Row_contains_2, q_Row_contains_0, q_Row_contains_1, q_Row_contains_3, q_Row_contains_3n, q_Row_contains_4, q_Row_contains_7, q_Row_contains_10, q_Row_contains_10n, q_Row_contains_11, q_Row_contains_14, q_Row_contains_15, q_Row_contains_16, q_Row_contains_17, q_Row_contains_20, q_Row_contains_21_0, q_Row_contains_21_1, q_Row_contains_21_b, q_Row_contains_22, q_Row_contains_25, q_Row_contains_28, q_Row_contains_29_0, q_Row_contains_29_1, q_Row_contains_29_b, Option.bind_some, Option.toList_some, Option.toList_none, List.cons_append, List.nil_append, zq_rf_some, zq_rf_none, ↓reduceIte, zq_lt, zq_le, zq_eq, nI_add, zq_up_s, zq_up_o, zq_up_k, zq_b_eq0, hn, h1, hp, hx, not_false_eq_true, ih]
      have : (∃ j, i + 1 ≤ j ∧ j < n ∧ I a j = x) ↔ ∃ j, i ≤ j ∧ j < n ∧ I a j = x := by
        constructor
        · rintro ⟨j, a1, a2, a3⟩; exact ⟨j, by omega, a2, a3⟩
        · rintro ⟨j, a1, a2, a3⟩
          refine ⟨j, ?_, a2, a3⟩
          by_cases hj : j = i
          · rw [hj] at a3; exact absurd a3 hx
          · omega
      simp only [this]
end M10
