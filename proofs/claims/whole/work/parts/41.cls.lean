theorem zc_ap_bd {X : (Nat → Nat → Nat)} (hX : zr_bd X) {k len x : Nat} (hx : x < 65536) (hl : len < 100) : zr_bd (zc_ap X k len x) := by
  unfold zc_ap
  split
  · exact (hX.up hx).up (by omega)
  · exact hX
theorem zc_ap_o {X : (Nat → Nat → Nat)} {k len x a j : Nat} (h1 : a ≠ k) (h2 : a ≠ k + 1) : zc_ap X k len x a j = X a j := by
  unfold zc_ap
  split
  · rw [zq_up_o h1, zq_up_o h2]
  · rfl
theorem zc_ap_n {X : (Nat → Nat → Nat)} {k len x : Nat} (h : X k 1 < len) : zc_ap X k len x k 1 = X k 1 + 1 := by
  unfold zc_ap
  rw [if_pos h, zq_up_s]
theorem zc_ap_v {X : (Nat → Nat → Nat)} {k len x : Nat} (h : X k 1 < len) : zc_ap X k len x (k + 1) (X k 1) = x := by
  unfold zc_ap
  rw [if_pos h, zq_up_o (by omega), zq_up_s]
theorem zc_ap_lo {X : (Nat → Nat → Nat)} {k len x j : Nat} (h : j < X k 1) : zc_ap X k len x (k + 1) j = X (k + 1) j := by
  unfold zc_ap
  split
  · rw [zq_up_o (by omega), zq_up_k (by omega)]
  · rfl
theorem c_noteRemoved {d nx kx g : Nat} {sh : zq_S} {P : zq_P} {X : Nat → Nat → Nat} {I0 : zq_I} {k l : Nat} (h : zc_ep g k sh P) (hl : l < 8) : zq_C d 44 [.ref (g + k), .int (nI l)] sh (zx g X I0) P nx kx = some (none, sh, zx g (zq_up X k 4 (X k 4 ||| 2 ^ l)) I0, P, nx, kx) := by
  obtain ⟨a1, a2, a3, a4, a5, a6, a7, a8⟩ := h
  simp (disch := first | assumption | omega | exact Nat.le_of_ble_eq_true rfl) only [q_Epoch_noteRemoved, q_Epoch_noteRemoved_0, q_Epoch_noteRemoved_0n, q_Epoch_noteRemoved_1, q_Epoch_noteRemoved_1i, q_Epoch_noteRemoved_2, q_Epoch_noteRemoved_5, q_Epoch_noteRemoved_6, q_Epoch_noteRemoved_7, q_Epoch_noteRemoved_8, q_Epoch_noteRemoved_9, q_Epoch_noteRemoved_12, Option.bind_some, Option.toList_some, Option.toList_none, List.cons_append, List.nil_append, zq_rf_some, zq_rf_none, ↓reduceIte, zq_lt, zq_le, zq_eq, nI_add, zq_up_s, zq_up_o, zq_up_k, zq_b_eq0, Nat.reduceEqDiff, Nat.reduceLeDiff, Nat.reduceLT, Nat.reduceAdd, not_true_eq_false, not_false_eq_true, Nat.not_lt_zero, zq_on_lt, zq_os, false_or, or_false, or_self, Bool.false_eq_true, zx_n, zq_shl1, zq_or, zx_u]
theorem c_noteAdded {d nx kx g : Nat} {sh : zq_S} {P : zq_P} {X : Nat → Nat → Nat} {I0 : zq_I} {k l : Nat} (h : zc_ep g k sh P) (hl : l < 8) : zq_C d 45 [.ref (g + k), .int (nI l)] sh (zx g X I0) P nx kx = some (none, sh, zx g (zq_up X k 5 (X k 5 ||| 2 ^ l)) I0, P, nx, kx) := by
  obtain ⟨a1, a2, a3, a4, a5, a6, a7, a8⟩ := h
  simp (disch := first | assumption | omega | exact Nat.le_of_ble_eq_true rfl) only [q_Epoch_noteAdded, q_Epoch_noteAdded_0, q_Epoch_noteAdded_0n, q_Epoch_noteAdded_1, q_Epoch_noteAdded_1i, q_Epoch_noteAdded_2, q_Epoch_noteAdded_5, q_Epoch_noteAdded_6, q_Epoch_noteAdded_7, q_Epoch_noteAdded_8, q_Epoch_noteAdded_9, q_Epoch_noteAdded_12, Option.bind_some, Option.toList_some, Option.toList_none, List.cons_append, List.nil_append, zq_rf_some, zq_rf_none, ↓reduceIte, zq_lt, zq_le, zq_eq, nI_add, zq_up_s, zq_up_o, zq_up_k, zq_b_eq0, Nat.reduceEqDiff, Nat.reduceLeDiff, Nat.reduceLT, Nat.reduceAdd, not_true_eq_false, not_false_eq_true, Nat.not_lt_zero, zq_on_lt, zq_os, false_or, or_false, or_self, Bool.false_eq_true, zx_n, zq_shl1, zq_or, zx_u]
theorem c_hasRemoved {d nx kx g : Nat} {sh : zq_S} {P : zq_P} {X : Nat → Nat → Nat} {I0 : zq_I} {k l : Nat} (h : zc_ep g k sh P) (hX : zr_bd X) (hl : l < 8) : zq_C d 46 [.ref (g + k), .int (nI l)] sh (zx g X I0) P nx kx = some (some (.int (zq_b (¬ zq_bt (X k 4) l = 0))), sh, zx g X I0, P, nx, kx) := by
  obtain ⟨a1, a2, a3, a4, a5, a6, a7, a8⟩ := h
  have b := hX.lt k 4
  have b2 : zq_bt (X k 4) l < 2 := Nat.mod_lt _ (by decide)
  by_cases c : zq_bt (X k 4) l = 0
  · rw [zq_b_f (fun q => q c)]
    simp (disch := first | assumption | omega | exact Nat.le_of_ble_eq_true rfl) only [q_Epoch_hasRemoved, q_Epoch_hasRemoved_0, q_Epoch_hasRemoved_0n, q_Epoch_hasRemoved_1, q_Epoch_hasRemoved_4, q_Epoch_hasRemoved_5, q_Epoch_hasRemoved_6, q_Epoch_hasRemoved_7, q_Epoch_hasRemoved_8, q_Epoch_hasRemoved_9, q_Epoch_hasRemoved_12, q_Epoch_hasRemoved_13, q_Epoch_hasRemoved_16, q_Epoch_hasRemoved_17_0, q_Epoch_hasRemoved_17_1, q_Epoch_hasRemoved_17_b, Option.bind_some, Option.toList_some, Option.toList_none, List.cons_append, List.nil_append, zq_rf_some, zq_rf_none, ↓reduceIte, zq_lt, zq_le, zq_eq, nI_add, zq_up_s, zq_up_o, zq_up_k, zq_b_eq0, Nat.reduceEqDiff, Nat.reduceLeDiff, Nat.reduceLT, Nat.reduceAdd, not_true_eq_false, not_false_eq_true, Nat.not_lt_zero, zq_on_lt, zq_os, false_or, or_false, or_self, Bool.false_eq_true, zx_n, zq_bit, c]
  · have c1 : zq_bt (X k 4) l = 1 := by omega
    rw [zq_b_t c]
    simp (disch := first | assumption | omega | exact Nat.le_of_ble_eq_true rfl) only [q_Epoch_hasRemoved, q_Epoch_hasRemoved_0, q_Epoch_hasRemoved_0n, q_Epoch_hasRemoved_1, q_Epoch_hasRemoved_4, q_Epoch_hasRemoved_5, q_Epoch_hasRemoved_6, q_Epoch_hasRemoved_7, q_Epoch_hasRemoved_8, q_Epoch_hasRemoved_9, q_Epoch_hasRemoved_12, q_Epoch_hasRemoved_13, q_Epoch_hasRemoved_16, q_Epoch_hasRemoved_17_0, q_Epoch_hasRemoved_17_1, q_Epoch_hasRemoved_17_b, Option.bind_some, Option.toList_some, Option.toList_none, List.cons_append, List.nil_append, zq_rf_some, zq_rf_none, ↓reduceIte, zq_lt, zq_le, zq_eq, nI_add, zq_up_s, zq_up_o, zq_up_k, zq_b_eq0, Nat.reduceEqDiff, Nat.reduceLeDiff, Nat.reduceLT, Nat.reduceAdd, not_true_eq_false, not_false_eq_true, Nat.not_lt_zero, zq_on_lt, zq_os, false_or, or_false, or_self, Bool.false_eq_true, zx_n, zq_bit, c1]
theorem zq_m8 : ∀ n, n < 8 → ((nI n - nI 8 < nI 0) = True ∧ nI (8 + n) - nI 8 = nI n) := by decide +kernel
theorem c_hasAdded {d nx kx g : Nat} {sh : zq_S} {P : zq_P} {X : Nat → Nat → Nat} {I0 : zq_I} {k n : Nat} (h : zc_ep g k sh P) (hX : zr_bd X) (hn : n < 16) : zq_C d 47 [.ref (g + k), .int (nI n - nI 8)] sh (zx g X I0) P nx kx = some (some (.int (zq_b (8 ≤ n ∧ ¬ zq_bt (X k 5) (n - 8) = 0))), sh, zx g X I0, P, nx, kx) := by
  obtain ⟨a1, a2, a3, a4, a5, a6, a7, a8⟩ := h
  have b := hX.lt k 5
  by_cases h8 : n < 8
  · rw [zq_b_f (by omega)]
    have e := (zq_m8 n h8).1
    simp (disch := first | assumption | omega | exact Nat.le_of_ble_eq_true rfl) only [q_Epoch_hasAdded, q_Epoch_hasAdded_0, q_Epoch_hasAdded_1, q_Epoch_hasAdded_4, q_Epoch_hasAdded_4n, q_Epoch_hasAdded_5, q_Epoch_hasAdded_8, q_Epoch_hasAdded_9, q_Epoch_hasAdded_10, q_Epoch_hasAdded_11, q_Epoch_hasAdded_12, q_Epoch_hasAdded_13, q_Epoch_hasAdded_16, q_Epoch_hasAdded_17, q_Epoch_hasAdded_20, q_Epoch_hasAdded_21_0, q_Epoch_hasAdded_21_1, q_Epoch_hasAdded_21_b, Option.bind_some, Option.toList_some, Option.toList_none, List.cons_append, List.nil_append, zq_rf_some, zq_rf_none, ↓reduceIte, zq_lt, zq_le, zq_eq, nI_add, zq_up_s, zq_up_o, zq_up_k, zq_b_eq0, Nat.reduceEqDiff, Nat.reduceLeDiff, Nat.reduceLT, Nat.reduceAdd, not_true_eq_false, not_false_eq_true, Nat.not_lt_zero, zq_on_lt, zq_os, false_or, or_false, or_self, Bool.false_eq_true, e, if_true]
  · obtain ⟨l, rfl⟩ : ∃ l, n = 8 + l := ⟨n - 8, by omega⟩
    have hl : l < 8 := by omega
    have e := (zq_m8 l hl).2
    rw [Nat.add_sub_cancel_left, e]
    have b2 : zq_bt (X k 5) l < 2 := Nat.mod_lt _ (by decide)
    by_cases c : zq_bt (X k 5) l = 0
    · rw [zq_b_f (fun q => q.2 c)]
      simp (disch := first | assumption | omega | exact Nat.le_of_ble_eq_true rfl) only [q_Epoch_hasAdded, q_Epoch_hasAdded_0, q_Epoch_hasAdded_1, q_Epoch_hasAdded_4, q_Epoch_hasAdded_4n, q_Epoch_hasAdded_5, q_Epoch_hasAdded_8, q_Epoch_hasAdded_9, q_Epoch_hasAdded_10, q_Epoch_hasAdded_11, q_Epoch_hasAdded_12, q_Epoch_hasAdded_13, q_Epoch_hasAdded_16, q_Epoch_hasAdded_17, q_Epoch_hasAdded_20, q_Epoch_hasAdded_21_0, q_Epoch_hasAdded_21_1, q_Epoch_hasAdded_21_b, Option.bind_some, Option.toList_some, Option.toList_none, List.cons_append, List.nil_append, zq_rf_some, zq_rf_none, ↓reduceIte, zq_lt, zq_le, zq_eq, nI_add, zq_up_s, zq_up_o, zq_up_k, zq_b_eq0, Nat.reduceEqDiff, Nat.reduceLeDiff, Nat.reduceLT, Nat.reduceAdd, not_true_eq_false, not_false_eq_true, Nat.not_lt_zero, zq_on_lt, zq_os, false_or, or_false, or_self, Bool.false_eq_true, zx_n, zq_bit, c]
    · have c1 : zq_bt (X k 5) l = 1 := by omega
      rw [zq_b_t ⟨by omega, c⟩]
      simp (disch := first | assumption | omega | exact Nat.le_of_ble_eq_true rfl) only [q_Epoch_hasAdded, q_Epoch_hasAdded_0, q_Epoch_hasAdded_1, q_Epoch_hasAdded_4, q_Epoch_hasAdded_4n, q_Epoch_hasAdded_5, q_Epoch_hasAdded_8, q_Epoch_hasAdded_9, q_Epoch_hasAdded_10, q_Epoch_hasAdded_11, q_Epoch_hasAdded_12, q_Epoch_hasAdded_13, q_Epoch_hasAdded_16, q_Epoch_hasAdded_17, q_Epoch_hasAdded_20, q_Epoch_hasAdded_21_0, q_Epoch_hasAdded_21_1, q_Epoch_hasAdded_21_b, Option.bind_some, Option.toList_some, Option.toList_none, List.cons_append, List.nil_append, zq_rf_some, zq_rf_none, ↓reduceIte, zq_lt, zq_le, zq_eq, nI_add, zq_up_s, zq_up_o, zq_up_k, zq_b_eq0, Nat.reduceEqDiff, Nat.reduceLeDiff, Nat.reduceLT, Nat.reduceAdd, not_true_eq_false, not_false_eq_true, Nat.not_lt_zero, zq_on_lt, zq_os, false_or, or_false, or_self, Bool.false_eq_true, zx_n, zq_bit, c1]
def zc_sd (X : (Nat → Nat → Nat)) (k lk ct : Nat) : (Nat → Nat → Nat) := zc_ap (zc_ap X (k + 4) 16 lk) (k + 6) 16 ct
theorem zc_sd_bd {X : (Nat → Nat → Nat)} (hX : zr_bd X) {k lk ct : Nat} (h1 : lk < 65536) (h2 : ct < 65536) : zr_bd (zc_sd X k lk ct) := zc_ap_bd (zc_ap_bd hX h1 (by decide)) h2 (by decide)
theorem c_send {d nx kx g : Nat} {sh : zq_S} {P : zq_P} {X : Nat → Nat → Nat} {I0 : zq_I} {k lk ct : Nat} (h : zc_ep g k sh P) (hX : zr_bd X) (h1 : lk < 65536) : zq_C (d + 1) 48 [.ref (g + k), .int (nI lk), .int (nI ct)] sh (zx g X I0) P nx kx = some (none, sh, zx g (zc_sd X k lk ct) I0, P, nx, kx) := by
  obtain ⟨a1, a2, a3, a4, a5, a6, a7, a8⟩ := h
  have a61 := a6.1
  have a71 := a7.1
  have e1 := c_append (d := d) (nx := nx) (kx := kx) (I0 := I0) a6 hX (x := lk)
  have e2 := c_append (d := d) (nx := nx) (kx := kx) (I0 := I0) a7 (zc_ap_bd hX (k := k + 4) h1 (by decide : 16 < 100)) (x := ct)
  simp (disch := first | assumption | omega | exact Nat.le_of_ble_eq_true rfl) only [q_Epoch_send, q_Epoch_send_0, q_Epoch_send_0n, q_Epoch_send_1, q_Epoch_send_4, q_Epoch_send_5, q_Epoch_send_8, q_Epoch_send_8n, q_Epoch_send_9, q_Epoch_send_12, q_Epoch_send_13, q_Epoch_send_16, Option.bind_some, Option.toList_some, Option.toList_none, List.cons_append, List.nil_append, zq_rf_some, zq_rf_none, ↓reduceIte, zq_lt, zq_le, zq_eq, nI_add, zq_up_s, zq_up_o, zq_up_k, zq_b_eq0, Nat.reduceEqDiff, Nat.reduceLeDiff, Nat.reduceLT, Nat.reduceAdd, not_true_eq_false, not_false_eq_true, Nat.not_lt_zero, zq_on_lt, zq_os, false_or, or_false, or_self, Bool.false_eq_true, a3, a4, e1, e2, zc_sd]
def zc_jn (X : (Nat → Nat → Nat)) (p l e : Nat) : (Nat → Nat → Nat) := zq_up (zq_up (zq_up X (2 + p) 0 2) (2 + p) 2 l) (2 + p) 1 e
theorem c_join {d nx kx g : Nat} {sh : zq_S} {P : zq_P} {X : Nat → Nat → Nat} {I0 : zq_I} {p l e : Nat} (h : (sh (g + (2 + p))).1 = 103) (hp : p < 10) : zq_C d 58 [.ref (g + (2 + p)), .int (nI l), .int (nI e)] sh (zx g X I0) P nx kx = some (none, sh, zx g (zc_jn X p l e) I0, P, nx, kx) := by
  simp (disch := first | assumption | omega | exact Nat.le_of_ble_eq_true rfl) only [q_Person_join, q_Person_join_0, q_Person_join_0n, q_Person_join_1, q_Person_join_2, q_Person_join_5, q_Person_join_5n, q_Person_join_6, q_Person_join_7, q_Person_join_10, q_Person_join_10n, q_Person_join_11, q_Person_join_12, q_Person_join_15, Option.bind_some, Option.toList_some, Option.toList_none, List.cons_append, List.nil_append, zq_rf_some, zq_rf_none, ↓reduceIte, zq_lt, zq_le, zq_eq, nI_add, zq_up_s, zq_up_o, zq_up_k, zq_b_eq0, Nat.reduceEqDiff, Nat.reduceLeDiff, Nat.reduceLT, Nat.reduceAdd, not_true_eq_false, not_false_eq_true, Nat.not_lt_zero, zq_on_lt, zq_os, false_or, or_false, or_self, Bool.false_eq_true, zx_u, zc_jn]
/-! the listener -/
def zc_li (g : Nat) (sh : zq_S) (P : zq_P) : Prop := (sh (g + 13)).1 = 102 ∧ P (g + 13) 0 = some (g + 14) ∧ P (g + 13) 1 = some (g + 15) ∧ (sh (g + 14)).1 = 3 ∧ (sh (g + 14)).2 = 121 ∧ (sh (g + 15)).1 = 3 ∧ (sh (g + 15)).2 = 21
theorem c_hasKey {d nx kx g : Nat} {sh : zq_S} {P : zq_P} {X : Nat → Nat → Nat} {I0 : zq_I} (h : zc_li g sh P) (hX : zr_bd X) (x : Int32) : zq_C d 50 [.ref (g + 13), .int x] sh (zx g X I0) P nx kx = some (some (.int (zq_b (∃ k, 1 ≤ k ∧ k ≤ 120 ∧ x = nI k ∧ ¬ X 14 k = 0))), sh, zx g X I0, P, nx, kx) := by
  obtain ⟨a1, a2, a3, a4, a5, a6, a7⟩ := h
  rcases zq_ix x (n := 121) (by decide) with h | h | ⟨j, hj, rfl⟩
  · rw [zq_b_f]
    · have e : x ≤ nI 0 := Int32.le_of_lt h
      simp (disch := first | assumption | omega | exact Nat.le_of_ble_eq_true rfl) only [q_Listener_hasKey, q_Listener_hasKey_0, q_Listener_hasKey_1, q_Listener_hasKey_4, q_Listener_hasKey_5, q_Listener_hasKey_7, q_Listener_hasKey_10, q_Listener_hasKey_10n, q_Listener_hasKey_11, q_Listener_hasKey_14, q_Listener_hasKey_15, q_Listener_hasKey_16, q_Listener_hasKey_19, q_Listener_hasKey_20, q_Listener_hasKey_23, q_Listener_hasKey_24_0, q_Listener_hasKey_24_1, q_Listener_hasKey_24_b, Option.bind_some, Option.toList_some, Option.toList_none, List.cons_append, List.nil_append, zq_rf_some, zq_rf_none, ↓reduceIte, zq_lt, zq_le, zq_eq, nI_add, zq_up_s, zq_up_o, zq_up_k, zq_b_eq0, Nat.reduceEqDiff, Nat.reduceLeDiff, Nat.reduceLT, Nat.reduceAdd, not_true_eq_false, not_false_eq_true, Nat.not_lt_zero, zq_on_lt, zq_os, false_or, or_false, or_self, Bool.false_eq_true, e, if_true]
    · rintro ⟨k, k1, k2, rfl, -⟩
      rw [zq_lt (by omega) (by omega)] at h
      omega
  · rw [zq_b_f]
    · have e : nI 120 < x := Int32.lt_of_lt_of_le (by decide) h
      have e2 : ¬ x ≤ nI 0 := fun q => absurd (Int32.lt_of_lt_of_le e q) (by decide)
      simp (disch := first | assumption | omega | exact Nat.le_of_ble_eq_true rfl) only [q_Listener_hasKey, q_Listener_hasKey_0, q_Listener_hasKey_1, q_Listener_hasKey_4, q_Listener_hasKey_5, q_Listener_hasKey_7, q_Listener_hasKey_10, q_Listener_hasKey_10n, q_Listener_hasKey_11, q_Listener_hasKey_14, q_Listener_hasKey_15, q_Listener_hasKey_16, q_Listener_hasKey_19, q_Listener_hasKey_20, q_Listener_hasKey_23, q_Listener_hasKey_24_0, q_Listener_hasKey_24_1, q_Listener_hasKey_24_b, Option.bind_some, Option.toList_some, Option.toList_none, List.cons_append, List.nil_append, zq_rf_some, zq_rf_none, ↓reduceIte, zq_lt, zq_le, zq_eq, nI_add, zq_up_s, zq_up_o, zq_up_k, zq_b_eq0, Nat.reduceEqDiff, Nat.reduceLeDiff, Nat.reduceLT, Nat.reduceAdd, not_true_eq_false, not_false_eq_true, Nat.not_lt_zero, zq_on_lt, zq_os, false_or, or_false, or_self, Bool.false_eq_true, e, e2, if_true]
    · rintro ⟨k, k1, k2, rfl, -⟩
      rw [zq_le (by omega) (by omega)] at h
      omega
  · have b := hX.lt 14 j
    by_cases h0 : j = 0
    · subst h0
      rw [zq_b_f]
      · simp (disch := first | assumption | omega | exact Nat.le_of_ble_eq_true rfl) only [q_Listener_hasKey, q_Listener_hasKey_0, q_Listener_hasKey_1, q_Listener_hasKey_4, q_Listener_hasKey_5, q_Listener_hasKey_7, q_Listener_hasKey_10, q_Listener_hasKey_10n, q_Listener_hasKey_11, q_Listener_hasKey_14, q_Listener_hasKey_15, q_Listener_hasKey_16, q_Listener_hasKey_19, q_Listener_hasKey_20, q_Listener_hasKey_23, q_Listener_hasKey_24_0, q_Listener_hasKey_24_1, q_Listener_hasKey_24_b, Option.bind_some, Option.toList_some, Option.toList_none, List.cons_append, List.nil_append, zq_rf_some, zq_rf_none, ↓reduceIte, zq_lt, zq_le, zq_eq, nI_add, zq_up_s, zq_up_o, zq_up_k, zq_b_eq0, Nat.reduceEqDiff, Nat.reduceLeDiff, Nat.reduceLT, Nat.reduceAdd, not_true_eq_false, not_false_eq_true, Nat.not_lt_zero, zq_on_lt, zq_os, false_or, or_false, or_self, Bool.false_eq_true, Nat.le_refl]
      · rintro ⟨k, k1, k2, e, -⟩
        rw [zq_eq (by omega) (by omega)] at e
        omega
    · have h1 : ¬ j ≤ 0 := by omega
      have h2 : ¬ 120 < j := by omega
      by_cases c : X 14 j = 0
      · rw [zq_b_f]
        · simp (disch := first | assumption | omega | exact Nat.le_of_ble_eq_true rfl) only [q_Listener_hasKey, q_Listener_hasKey_0, q_Listener_hasKey_1, q_Listener_hasKey_4, q_Listener_hasKey_5, q_Listener_hasKey_7, q_Listener_hasKey_10, q_Listener_hasKey_10n, q_Listener_hasKey_11, q_Listener_hasKey_14, q_Listener_hasKey_15, q_Listener_hasKey_16, q_Listener_hasKey_19, q_Listener_hasKey_20, q_Listener_hasKey_23, q_Listener_hasKey_24_0, q_Listener_hasKey_24_1, q_Listener_hasKey_24_b, Option.bind_some, Option.toList_some, Option.toList_none, List.cons_append, List.nil_append, zq_rf_some, zq_rf_none, ↓reduceIte, zq_lt, zq_le, zq_eq, nI_add, zq_up_s, zq_up_o, zq_up_k, zq_b_eq0, Nat.reduceEqDiff, Nat.reduceLeDiff, Nat.reduceLT, Nat.reduceAdd, not_true_eq_false, not_false_eq_true, Nat.not_lt_zero, zq_on_lt, zq_os, false_or, or_false, or_self, Bool.false_eq_true, h1, h2, a2, zx_n, c]
        · rintro ⟨k, k1, k2, e, q⟩
          rw [zq_eq (by omega) (by omega)] at e
          subst e
          exact q c
      · rw [zq_b_t ⟨j, by omega, by omega, rfl, c⟩]
        simp (disch := first | assumption | omega | exact Nat.le_of_ble_eq_true rfl) only [q_Listener_hasKey, q_Listener_hasKey_0, q_Listener_hasKey_1, q_Listener_hasKey_4, q_Listener_hasKey_5, q_Listener_hasKey_7, q_Listener_hasKey_10, q_Listener_hasKey_10n, q_Listener_hasKey_11, q_Listener_hasKey_14, q_Listener_hasKey_15, q_Listener_hasKey_16, q_Listener_hasKey_19, q_Listener_hasKey_20, q_Listener_hasKey_23, q_Listener_hasKey_24_0, q_Listener_hasKey_24_1, q_Listener_hasKey_24_b, Option.bind_some, Option.toList_some, Option.toList_none, List.cons_append, List.nil_append, zq_rf_some, zq_rf_none, ↓reduceIte, zq_lt, zq_le, zq_eq, nI_add, zq_up_s, zq_up_o, zq_up_k, zq_b_eq0, Nat.reduceEqDiff, Nat.reduceLeDiff, Nat.reduceLT, Nat.reduceAdd, not_true_eq_false, not_false_eq_true, Nat.not_lt_zero, zq_on_lt, zq_os, false_or, or_false, or_self, Bool.false_eq_true, h1, h2, a2, zx_n, c]
theorem c_hasKeyN {d nx kx g : Nat} {sh : zq_S} {P : zq_P} {X : Nat → Nat → Nat} {I0 : zq_I} (h : zc_li g sh P) (hX : zr_bd X) {k : Nat} (h1 : 1 ≤ k) (h2 : k ≤ 120) : zq_C d 50 [.ref (g + 13), .int (nI k)] sh (zx g X I0) P nx kx = some (some (.int (zq_b (¬ X 14 k = 0))), sh, zx g X I0, P, nx, kx) := by
  rw [c_hasKey h hX, zq_b_congr]
  constructor
  · rintro ⟨j, -, j2, e, q⟩
    rw [zq_eq (by omega) (by omega)] at e
    subst e
    exact q
  · intro q
    exact ⟨k, h1, h2, rfl, q⟩
theorem c_hasSecret {d nx kx g : Nat} {sh : zq_S} {P : zq_P} {X : Nat → Nat → Nat} {I0 : zq_I} (h : zc_li g sh P) (hX : zr_bd X) (x : Int32) : zq_C d 51 [.ref (g + 13), .int x] sh (zx g X I0) P nx kx = some (some (.int (zq_b (∃ k, k ≤ 20 ∧ x = nI k ∧ ¬ X 15 k = 0))), sh, zx g X I0, P, nx, kx) := by
  obtain ⟨a1, a2, a3, a4, a5, a6, a7⟩ := h
  rcases zq_ix x (n := 21) (by decide) with h | h | ⟨j, hj, rfl⟩
  · rw [zq_b_f]
    · simp (disch := first | assumption | omega | exact Nat.le_of_ble_eq_true rfl) only [q_Listener_hasSecret, q_Listener_hasSecret_0, q_Listener_hasSecret_1, q_Listener_hasSecret_4, q_Listener_hasSecret_5, q_Listener_hasSecret_7, q_Listener_hasSecret_10, q_Listener_hasSecret_10n, q_Listener_hasSecret_11, q_Listener_hasSecret_14, q_Listener_hasSecret_15, q_Listener_hasSecret_16, q_Listener_hasSecret_19, q_Listener_hasSecret_20, q_Listener_hasSecret_23, q_Listener_hasSecret_24_0, q_Listener_hasSecret_24_1, q_Listener_hasSecret_24_b, Option.bind_some, Option.toList_some, Option.toList_none, List.cons_append, List.nil_append, zq_rf_some, zq_rf_none, ↓reduceIte, zq_lt, zq_le, zq_eq, nI_add, zq_up_s, zq_up_o, zq_up_k, zq_b_eq0, Nat.reduceEqDiff, Nat.reduceLeDiff, Nat.reduceLT, Nat.reduceAdd, not_true_eq_false, not_false_eq_true, Nat.not_lt_zero, zq_on_lt, zq_os, false_or, or_false, or_self, Bool.false_eq_true, h, if_true]
    · rintro ⟨k, k2, rfl, -⟩
      rw [zq_lt (by omega) (by omega)] at h
      omega
  · rw [zq_b_f]
    · have e : nI 20 < x := Int32.lt_of_lt_of_le (by decide) h
      have e2 : ¬ x < nI 0 := fun q => absurd (Int32.lt_trans e q) (by decide)
      simp (disch := first | assumption | omega | exact Nat.le_of_ble_eq_true rfl) only [q_Listener_hasSecret, q_Listener_hasSecret_0, q_Listener_hasSecret_1, q_Listener_hasSecret_4, q_Listener_hasSecret_5, q_Listener_hasSecret_7, q_Listener_hasSecret_10, q_Listener_hasSecret_10n, q_Listener_hasSecret_11, q_Listener_hasSecret_14, q_Listener_hasSecret_15, q_Listener_hasSecret_16, q_Listener_hasSecret_19, q_Listener_hasSecret_20, q_Listener_hasSecret_23, q_Listener_hasSecret_24_0, q_Listener_hasSecret_24_1, q_Listener_hasSecret_24_b, Option.bind_some, Option.toList_some, Option.toList_none, List.cons_append, List.nil_append, zq_rf_some, zq_rf_none, ↓reduceIte, zq_lt, zq_le, zq_eq, nI_add, zq_up_s, zq_up_o, zq_up_k, zq_b_eq0, Nat.reduceEqDiff, Nat.reduceLeDiff, Nat.reduceLT, Nat.reduceAdd, not_true_eq_false, not_false_eq_true, Nat.not_lt_zero, zq_on_lt, zq_os, false_or, or_false, or_self, Bool.false_eq_true, e, e2, if_true]
    · rintro ⟨k, k2, rfl, -⟩
      rw [zq_le (by omega) (by omega)] at h
      omega
  · have b := hX.lt 15 j
    have h1 : ¬ j < 0 := by omega
    have h2 : ¬ 20 < j := by omega
    by_cases c : X 15 j = 0
    · rw [zq_b_f]
      · simp (disch := first | assumption | omega | exact Nat.le_of_ble_eq_true rfl) only [q_Listener_hasSecret, q_Listener_hasSecret_0, q_Listener_hasSecret_1, q_Listener_hasSecret_4, q_Listener_hasSecret_5, q_Listener_hasSecret_7, q_Listener_hasSecret_10, q_Listener_hasSecret_10n, q_Listener_hasSecret_11, q_Listener_hasSecret_14, q_Listener_hasSecret_15, q_Listener_hasSecret_16, q_Listener_hasSecret_19, q_Listener_hasSecret_20, q_Listener_hasSecret_23, q_Listener_hasSecret_24_0, q_Listener_hasSecret_24_1, q_Listener_hasSecret_24_b, Option.bind_some, Option.toList_some, Option.toList_none, List.cons_append, List.nil_append, zq_rf_some, zq_rf_none, ↓reduceIte, zq_lt, zq_le, zq_eq, nI_add, zq_up_s, zq_up_o, zq_up_k, zq_b_eq0, Nat.reduceEqDiff, Nat.reduceLeDiff, Nat.reduceLT, Nat.reduceAdd, not_true_eq_false, not_false_eq_true, Nat.not_lt_zero, zq_on_lt, zq_os, false_or, or_false, or_self, Bool.false_eq_true, h1, h2, a3, zx_n, c]
      · rintro ⟨k, k2, e, q⟩
        rw [zq_eq (by omega) (by omega)] at e
        subst e
        exact q c
    · rw [zq_b_t ⟨j, by omega, rfl, c⟩]
      simp (disch := first | assumption | omega | exact Nat.le_of_ble_eq_true rfl) only [q_Listener_hasSecret, q_Listener_hasSecret_0, q_Listener_hasSecret_1, q_Listener_hasSecret_4, q_Listener_hasSecret_5, q_Listener_hasSecret_7, q_Listener_hasSecret_10, q_Listener_hasSecret_10n, q_Listener_hasSecret_11, q_Listener_hasSecret_14, q_Listener_hasSecret_15, q_Listener_hasSecret_16, q_Listener_hasSecret_19, q_Listener_hasSecret_20, q_Listener_hasSecret_23, q_Listener_hasSecret_24_0, q_Listener_hasSecret_24_1, q_Listener_hasSecret_24_b, Option.bind_some, Option.toList_some, Option.toList_none, List.cons_append, List.nil_append, zq_rf_some, zq_rf_none, ↓reduceIte, zq_lt, zq_le, zq_eq, nI_add, zq_up_s, zq_up_o, zq_up_k, zq_b_eq0, Nat.reduceEqDiff, Nat.reduceLeDiff, Nat.reduceLT, Nat.reduceAdd, not_true_eq_false, not_false_eq_true, Nat.not_lt_zero, zq_on_lt, zq_os, false_or, or_false, or_self, Bool.false_eq_true, h1, h2, a3, zx_n, c]
theorem c_hasSecretN {d nx kx g : Nat} {sh : zq_S} {P : zq_P} {X : Nat → Nat → Nat} {I0 : zq_I} (h : zc_li g sh P) (hX : zr_bd X) {k : Nat} (h2 : k ≤ 20) : zq_C d 51 [.ref (g + 13), .int (nI k)] sh (zx g X I0) P nx kx = some (some (.int (zq_b (¬ X 15 k = 0))), sh, zx g X I0, P, nx, kx) := by
  rw [c_hasSecret h hX, zq_b_congr]
  constructor
  · rintro ⟨j, j2, e, q⟩
    rw [zq_eq (by omega) (by omega)] at e
    subst e
    exact q
  · intro q
    exact ⟨k, h2, rfl, q⟩
def zc_hk (X : (Nat → Nat → Nat)) (k : Nat) : (Nat → Nat → Nat) := if X 14 k = 0 then zq_up (zq_up X 14 k 1) 13 2 (X 13 2 + 1) else X
def zc_hs (X : (Nat → Nat → Nat)) (k : Nat) : (Nat → Nat → Nat) := if X 15 k = 0 then zq_up (zq_up X 15 k 1) 13 3 (X 13 3 + 1) else X
theorem c_hearKey {d nx kx g : Nat} {sh : zq_S} {P : zq_P} {X : Nat → Nat → Nat} {I0 : zq_I} (h : zc_li g sh P) (hX : zr_bd X) {k : Nat} (h1 : 1 ≤ k) (h2 : k ≤ 120) : zq_C d 52 [.ref (g + 13), .int (nI k)] sh (zx g X I0) P nx kx = some (none, sh, zx g (zc_hk X k) I0, P, nx, kx) := by
  obtain ⟨a1, a2, a3, a4, a5, a6, a7⟩ := h
  have b := hX.lt 14 k
  have q1 : ¬ k ≤ 0 := by omega
  have q2 : ¬ 120 < k := by omega
  by_cases c : X 14 k = 0
  · simp (disch := first | assumption | omega | exact Nat.le_of_ble_eq_true rfl) only [q_Listener_hearKey, q_Listener_hearKey_0, q_Listener_hearKey_1, q_Listener_hearKey_4, q_Listener_hearKey_5, q_Listener_hearKey_7, q_Listener_hearKey_10, q_Listener_hearKey_10n, q_Listener_hearKey_11, q_Listener_hearKey_14, q_Listener_hearKey_15, q_Listener_hearKey_16, q_Listener_hearKey_19, q_Listener_hearKey_19n, q_Listener_hearKey_20, q_Listener_hearKey_23, q_Listener_hearKey_24, q_Listener_hearKey_25, q_Listener_hearKey_26, q_Listener_hearKey_26n, q_Listener_hearKey_27, q_Listener_hearKey_27i, q_Listener_hearKey_28, q_Listener_hearKey_31, q_Listener_hearKey_32, q_Listener_hearKey_33, q_Listener_hearKey_36, Option.bind_some, Option.toList_some, Option.toList_none, List.cons_append, List.nil_append, zq_rf_some, zq_rf_none, ↓reduceIte, zq_lt, zq_le, zq_eq, nI_add, zq_up_s, zq_up_o, zq_up_k, zq_b_eq0, Nat.reduceEqDiff, Nat.reduceLeDiff, Nat.reduceLT, Nat.reduceAdd, not_true_eq_false, not_false_eq_true, Nat.not_lt_zero, zq_on_lt, zq_os, false_or, or_false, or_self, Bool.false_eq_true, q1, q2, a2, zx_n, c, zq_and1, zx_u, zc_hk]
  · simp (disch := first | assumption | omega | exact Nat.le_of_ble_eq_true rfl) only [q_Listener_hearKey, q_Listener_hearKey_0, q_Listener_hearKey_1, q_Listener_hearKey_4, q_Listener_hearKey_5, q_Listener_hearKey_7, q_Listener_hearKey_10, q_Listener_hearKey_10n, q_Listener_hearKey_11, q_Listener_hearKey_14, q_Listener_hearKey_15, q_Listener_hearKey_16, q_Listener_hearKey_19, q_Listener_hearKey_19n, q_Listener_hearKey_20, q_Listener_hearKey_23, q_Listener_hearKey_24, q_Listener_hearKey_25, q_Listener_hearKey_26, q_Listener_hearKey_26n, q_Listener_hearKey_27, q_Listener_hearKey_27i, q_Listener_hearKey_28, q_Listener_hearKey_31, q_Listener_hearKey_32, q_Listener_hearKey_33, q_Listener_hearKey_36, Option.bind_some, Option.toList_some, Option.toList_none, List.cons_append, List.nil_append, zq_rf_some, zq_rf_none, ↓reduceIte, zq_lt, zq_le, zq_eq, nI_add, zq_up_s, zq_up_o, zq_up_k, zq_b_eq0, Nat.reduceEqDiff, Nat.reduceLeDiff, Nat.reduceLT, Nat.reduceAdd, not_true_eq_false, not_false_eq_true, Nat.not_lt_zero, zq_on_lt, zq_os, false_or, or_false, or_self, Bool.false_eq_true, q1, q2, a2, zx_n, c, zq_and1, zx_u, zc_hk]
theorem c_hearSecret {d nx kx g : Nat} {sh : zq_S} {P : zq_P} {X : Nat → Nat → Nat} {I0 : zq_I} (h : zc_li g sh P) (hX : zr_bd X) {k : Nat} (h2 : k ≤ 20) : zq_C d 53 [.ref (g + 13), .int (nI k)] sh (zx g X I0) P nx kx = some (none, sh, zx g (zc_hs X k) I0, P, nx, kx) := by
  obtain ⟨a1, a2, a3, a4, a5, a6, a7⟩ := h
  have b := hX.lt 15 k
  have q1 : ¬ k < 0 := by omega
  have q2 : ¬ 20 < k := by omega
  by_cases c : X 15 k = 0
  · simp (disch := first | assumption | omega | exact Nat.le_of_ble_eq_true rfl) only [q_Listener_hearSecret, q_Listener_hearSecret_0, q_Listener_hearSecret_1, q_Listener_hearSecret_4, q_Listener_hearSecret_5, q_Listener_hearSecret_7, q_Listener_hearSecret_10, q_Listener_hearSecret_10n, q_Listener_hearSecret_11, q_Listener_hearSecret_14, q_Listener_hearSecret_15, q_Listener_hearSecret_16, q_Listener_hearSecret_19, q_Listener_hearSecret_19n, q_Listener_hearSecret_20, q_Listener_hearSecret_23, q_Listener_hearSecret_24, q_Listener_hearSecret_25, q_Listener_hearSecret_26, q_Listener_hearSecret_26n, q_Listener_hearSecret_27, q_Listener_hearSecret_27i, q_Listener_hearSecret_28, q_Listener_hearSecret_31, q_Listener_hearSecret_32, q_Listener_hearSecret_33, q_Listener_hearSecret_36, Option.bind_some, Option.toList_some, Option.toList_none, List.cons_append, List.nil_append, zq_rf_some, zq_rf_none, ↓reduceIte, zq_lt, zq_le, zq_eq, nI_add, zq_up_s, zq_up_o, zq_up_k, zq_b_eq0, Nat.reduceEqDiff, Nat.reduceLeDiff, Nat.reduceLT, Nat.reduceAdd, not_true_eq_false, not_false_eq_true, Nat.not_lt_zero, zq_on_lt, zq_os, false_or, or_false, or_self, Bool.false_eq_true, q1, q2, a3, zx_n, c, zq_and1, zx_u, zc_hs]
  · simp (disch := first | assumption | omega | exact Nat.le_of_ble_eq_true rfl) only [q_Listener_hearSecret, q_Listener_hearSecret_0, q_Listener_hearSecret_1, q_Listener_hearSecret_4, q_Listener_hearSecret_5, q_Listener_hearSecret_7, q_Listener_hearSecret_10, q_Listener_hearSecret_10n, q_Listener_hearSecret_11, q_Listener_hearSecret_14, q_Listener_hearSecret_15, q_Listener_hearSecret_16, q_Listener_hearSecret_19, q_Listener_hearSecret_19n, q_Listener_hearSecret_20, q_Listener_hearSecret_23, q_Listener_hearSecret_24, q_Listener_hearSecret_25, q_Listener_hearSecret_26, q_Listener_hearSecret_26n, q_Listener_hearSecret_27, q_Listener_hearSecret_27i, q_Listener_hearSecret_28, q_Listener_hearSecret_31, q_Listener_hearSecret_32, q_Listener_hearSecret_33, q_Listener_hearSecret_36, Option.bind_some, Option.toList_some, Option.toList_none, List.cons_append, List.nil_append, zq_rf_some, zq_rf_none, ↓reduceIte, zq_lt, zq_le, zq_eq, nI_add, zq_up_s, zq_up_o, zq_up_k, zq_b_eq0, Nat.reduceEqDiff, Nat.reduceLeDiff, Nat.reduceLT, Nat.reduceAdd, not_true_eq_false, not_false_eq_true, Nat.not_lt_zero, zq_on_lt, zq_os, false_or, or_false, or_self, Bool.false_eq_true, q1, q2, a3, zx_n, c, zq_and1, zx_u, zc_hs]
