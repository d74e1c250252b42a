/-! commit: refused, stale, full -/
theorem k_commit_no {d nx kx g : Nat} {sh : zq_S} {P : zq_P} {X : Nat → Nat → Nat} {I0 : zq_I} {ne p : Nat} (hG : zc_lay g ne sh P) (hX : zc_pr X) (hn : X 0 8 = ne) (h21 : ne ≤ 21) (hp : p < 10) (h : ne = 0 ∨ ¬ X (2 + p) 0 = 2 ∨ zc_in X 18 (X (2 + p) 2)) : zq_C (d + 1) 7 [.ref g, .int (nI p)] sh (zx g X I0) P nx kx = some (some (.int (-1)), sh, zx g X I0, P, nx, kx) := by
  obtain ⟨b1, b2, b3, b4, b5, b6, b7, b8⟩ := id hX
  obtain ⟨u0, r0, r1, r2, r3, r4, r5, r6, r7, v1, v2, vp, w1, w2, li, w16, w18, w20, w22, w24, ep⟩ := id hG
  have tp := (vp p hp).2
  have t18 := w18.1
  have b := b1.lt (2 + p) 0
  have bs := b1 (2 + p) 2
  have pe := c_person (d := d) (nx := nx) (kx := kx) (I0 := I0) (X := X) hG hp
  cases ne with
  | zero =>
    have la := c_last0 (d := d) (nx := nx) (kx := kx) (I0 := I0) hG hn
    simp (disch := first | assumption | omega | exact Nat.le_of_ble_eq_true rfl) only [q_G_commit, q_G_commit_0, q_G_commit_0n, q_G_commit_1, q_G_commit_2, q_G_commit_5, q_G_commit_5n, q_G_commit_6, q_G_commit_6n, q_G_commit_7, q_G_commit_7n, q_G_commit_8, q_G_commit_11, q_G_commit_14, q_G_commit_14n, q_G_commit_15, q_G_commit_15n, q_G_commit_16n, q_G_commit_16, q_G_commit_19, q_G_commit_19n, q_G_commit_20n, q_G_commit_20, q_G_commit_23, q_G_commit_23n, q_G_commit_24, q_G_commit_27, q_G_commit_28, q_G_commit_31, q_G_commit_31n, q_G_commit_32, q_G_commit_35, q_G_commit_35n, q_G_commit_36, q_G_commit_39, q_G_commit_42, q_G_commit_45, q_G_commit_46, q_G_commit_47, q_G_commit_47n, q_G_commit_48, q_G_commit_51, q_G_commit_51n, q_G_commit_52, q_G_commit_55, q_G_commit_58, q_G_commit_60, Option.bind_some, Option.toList_some, Option.toList_none, List.cons_append, List.nil_append, zq_rf_some, zq_rf_none, ↓reduceIte, zq_lt, zq_le, zq_eq, nI_add, zq_up_s, zq_up_o, zq_up_k, zq_b_eq0, Nat.reduceEqDiff, Nat.reduceLeDiff, Nat.reduceLT, Nat.reduceAdd, not_true_eq_false, not_false_eq_true, Nat.not_lt_zero, zq_on_lt, zq_os, false_or, or_false, or_self, Bool.false_eq_true, pe, zx_8, la]
  | succ e =>
    have la := c_last (d := d) (nx := nx) (kx := kx) (I0 := I0) hG hn (by omega)
    by_cases c1 : X (2 + p) 0 = 2
    · have c2 : zc_in X 18 (X (2 + p) 2) := by
        rcases h with h | h | h
        · omega
        · exact absurd c1 h
        · exact h
      have co := c_containsN (d := d) (nx := nx) (kx := kx) (I0 := I0) w18 b1 b3 (p := X (2 + p) 2) bs
      simp (disch := first | assumption | omega | exact Nat.le_of_ble_eq_true rfl) only [q_G_commit, q_G_commit_0, q_G_commit_0n, q_G_commit_1, q_G_commit_2, q_G_commit_5, q_G_commit_5n, q_G_commit_6, q_G_commit_6n, q_G_commit_7, q_G_commit_7n, q_G_commit_8, q_G_commit_11, q_G_commit_14, q_G_commit_14n, q_G_commit_15, q_G_commit_15n, q_G_commit_16n, q_G_commit_16, q_G_commit_19, q_G_commit_19n, q_G_commit_20n, q_G_commit_20, q_G_commit_23, q_G_commit_23n, q_G_commit_24, q_G_commit_27, q_G_commit_28, q_G_commit_31, q_G_commit_31n, q_G_commit_32, q_G_commit_35, q_G_commit_35n, q_G_commit_36, q_G_commit_39, q_G_commit_42, q_G_commit_45, q_G_commit_46, q_G_commit_47, q_G_commit_47n, q_G_commit_48, q_G_commit_51, q_G_commit_51n, q_G_commit_52, q_G_commit_55, q_G_commit_58, q_G_commit_60, Option.bind_some, Option.toList_some, Option.toList_none, List.cons_append, List.nil_append, zq_rf_some, zq_rf_none, ↓reduceIte, zq_lt, zq_le, zq_eq, nI_add, zq_up_s, zq_up_o, zq_up_k, zq_b_eq0, Nat.reduceEqDiff, Nat.reduceLeDiff, Nat.reduceLT, Nat.reduceAdd, not_true_eq_false, not_false_eq_true, Nat.not_lt_zero, zq_on_lt, zq_os, false_or, or_false, or_self, Bool.false_eq_true, pe, zx_8, la, zx_n, c1, r4, co, c2]
    · simp (disch := first | assumption | omega | exact Nat.le_of_ble_eq_true rfl) only [q_G_commit, q_G_commit_0, q_G_commit_0n, q_G_commit_1, q_G_commit_2, q_G_commit_5, q_G_commit_5n, q_G_commit_6, q_G_commit_6n, q_G_commit_7, q_G_commit_7n, q_G_commit_8, q_G_commit_11, q_G_commit_14, q_G_commit_14n, q_G_commit_15, q_G_commit_15n, q_G_commit_16n, q_G_commit_16, q_G_commit_19, q_G_commit_19n, q_G_commit_20n, q_G_commit_20, q_G_commit_23, q_G_commit_23n, q_G_commit_24, q_G_commit_27, q_G_commit_28, q_G_commit_31, q_G_commit_31n, q_G_commit_32, q_G_commit_35, q_G_commit_35n, q_G_commit_36, q_G_commit_39, q_G_commit_42, q_G_commit_45, q_G_commit_46, q_G_commit_47, q_G_commit_47n, q_G_commit_48, q_G_commit_51, q_G_commit_51n, q_G_commit_52, q_G_commit_55, q_G_commit_58, q_G_commit_60, Option.bind_some, Option.toList_some, Option.toList_none, List.cons_append, List.nil_append, zq_rf_some, zq_rf_none, ↓reduceIte, zq_lt, zq_le, zq_eq, nI_add, zq_up_s, zq_up_o, zq_up_k, zq_b_eq0, Nat.reduceEqDiff, Nat.reduceLeDiff, Nat.reduceLT, Nat.reduceAdd, not_true_eq_false, not_false_eq_true, Nat.not_lt_zero, zq_on_lt, zq_os, false_or, or_false, or_self, Bool.false_eq_true, pe, zx_8, la, zx_n, c1]
theorem k_commit_st {d nx kx g : Nat} {sh : zq_S} {P : zq_P} {X : Nat → Nat → Nat} {I0 : zq_I} {e p : Nat} (hG : zc_lay g (e + 1) sh P) (hX : zc_pr X) (hn : X 0 8 = e + 1) (h21 : e < 21) (hp : p < 10) (h1 : X (2 + p) 0 = 2) (h2 : ¬ zc_in X 18 (X (2 + p) 2)) (h3 : ¬ X (2 + p) 1 = e) : zq_C (d + 1) 7 [.ref g, .int (nI p)] sh (zx g X I0) P nx kx = some (some (.int (-3)), sh, zx g X I0, P, nx, kx) := by
  obtain ⟨b1, b2, b3, b4, b5, b6, b7, b8⟩ := id hX
  obtain ⟨u0, r0, r1, r2, r3, r4, r5, r6, r7, v1, v2, vp, w1, w2, li, w16, w18, w20, w22, w24, ep⟩ := id hG
  have tp := (vp p hp).2
  have t18 := w18.1
  have bs := b1 (2 + p) 2
  have br := b1 (2 + p) 1
  have pe := c_person (d := d) (nx := nx) (kx := kx) (I0 := I0) (X := X) hG hp
  have la := c_last (d := d) (nx := nx) (kx := kx) (I0 := I0) hG hn (by omega)
  have co := c_containsN (d := d) (nx := nx) (kx := kx) (I0 := I0) w18 b1 b3 (p := X (2 + p) 2) bs
  rw [hn, zq_pred] at la
  simp (disch := first | assumption | omega | exact Nat.le_of_ble_eq_true rfl) only [q_G_commit, q_G_commit_0, q_G_commit_0n, q_G_commit_1, q_G_commit_2, q_G_commit_5, q_G_commit_5n, q_G_commit_6, q_G_commit_6n, q_G_commit_7, q_G_commit_7n, q_G_commit_8, q_G_commit_11, q_G_commit_14, q_G_commit_14n, q_G_commit_15, q_G_commit_15n, q_G_commit_16n, q_G_commit_16, q_G_commit_19, q_G_commit_19n, q_G_commit_20n, q_G_commit_20, q_G_commit_23, q_G_commit_23n, q_G_commit_24, q_G_commit_27, q_G_commit_28, q_G_commit_31, q_G_commit_31n, q_G_commit_32, q_G_commit_35, q_G_commit_35n, q_G_commit_36, q_G_commit_39, q_G_commit_42, q_G_commit_45, q_G_commit_46, q_G_commit_47, q_G_commit_47n, q_G_commit_48, q_G_commit_51, q_G_commit_51n, q_G_commit_52, q_G_commit_55, q_G_commit_58, q_G_commit_60, Option.bind_some, Option.toList_some, Option.toList_none, List.cons_append, List.nil_append, zq_rf_some, zq_rf_none, ↓reduceIte, zq_lt, zq_le, zq_eq, nI_add, zq_up_s, zq_up_o, zq_up_k, zq_b_eq0, Nat.reduceEqDiff, Nat.reduceLeDiff, Nat.reduceLT, Nat.reduceAdd, not_true_eq_false, not_false_eq_true, Nat.not_lt_zero, zq_on_lt, zq_os, false_or, or_false, or_self, Bool.false_eq_true, pe, zx_8, hn, zq_pred, la, zx_n, h1, r4, co, h2, h3]
theorem k_commit_fu {d nx kx g : Nat} {sh : zq_S} {P : zq_P} {X : Nat → Nat → Nat} {I0 : zq_I} {e p : Nat} (hG : zc_lay g (e + 1) sh P) (hX : zc_pr X) (hn : X 0 8 = e + 1) (h21 : e < 21) (hp : p < 10) (h1 : X (2 + p) 0 = 2) (h2 : ¬ zc_in X 18 (X (2 + p) 2)) (h3 : X (2 + p) 1 = e) (h4 : 20 ≤ e ∨ 116 < X 0 9) : zq_C (d + 1) 7 [.ref g, .int (nI p)] sh (zx g X I0) P nx kx = some (some (.int (-2)), sh, zx g X I0, P, nx, kx) := by
  obtain ⟨b1, b2, b3, b4, b5, b6, b7, b8⟩ := id hX
  obtain ⟨u0, r0, r1, r2, r3, r4, r5, r6, r7, v1, v2, vp, w1, w2, li, w16, w18, w20, w22, w24, ep⟩ := id hG
  have tp := (vp p hp).2
  have t18 := w18.1
  have bs := b1 (2 + p) 2
  have b9 := b1.lt 0 9
  have pe := c_person (d := d) (nx := nx) (kx := kx) (I0 := I0) (X := X) hG hp
  have la := c_last (d := d) (nx := nx) (kx := kx) (I0 := I0) hG hn (by omega)
  have co := c_containsN (d := d) (nx := nx) (kx := kx) (I0 := I0) w18 b1 b3 (p := X (2 + p) 2) bs
  rw [hn, zq_pred] at la
  by_cases c1 : 20 ≤ e
  · simp (disch := first | assumption | omega | exact Nat.le_of_ble_eq_true rfl) only [q_G_commit, q_G_commit_0, q_G_commit_0n, q_G_commit_1, q_G_commit_2, q_G_commit_5, q_G_commit_5n, q_G_commit_6, q_G_commit_6n, q_G_commit_7, q_G_commit_7n, q_G_commit_8, q_G_commit_11, q_G_commit_14, q_G_commit_14n, q_G_commit_15, q_G_commit_15n, q_G_commit_16n, q_G_commit_16, q_G_commit_19, q_G_commit_19n, q_G_commit_20n, q_G_commit_20, q_G_commit_23, q_G_commit_23n, q_G_commit_24, q_G_commit_27, q_G_commit_28, q_G_commit_31, q_G_commit_31n, q_G_commit_32, q_G_commit_35, q_G_commit_35n, q_G_commit_36, q_G_commit_39, q_G_commit_42, q_G_commit_45, q_G_commit_46, q_G_commit_47, q_G_commit_47n, q_G_commit_48, q_G_commit_51, q_G_commit_51n, q_G_commit_52, q_G_commit_55, q_G_commit_58, q_G_commit_60, q_G_commit_61, q_G_commit_61n, q_G_commit_62, q_G_commit_65, q_G_commit_67, q_G_commit_70, q_G_commit_70n, q_G_commit_71, q_G_commit_74, q_G_commit_76, q_G_commit_79, q_G_commit_81, Option.bind_some, Option.toList_some, Option.toList_none, List.cons_append, List.nil_append, zq_rf_some, zq_rf_none, ↓reduceIte, zq_lt, zq_le, zq_eq, nI_add, zq_up_s, zq_up_o, zq_up_k, zq_b_eq0, Nat.reduceEqDiff, Nat.reduceLeDiff, Nat.reduceLT, Nat.reduceAdd, not_true_eq_false, not_false_eq_true, Nat.not_lt_zero, zq_on_lt, zq_os, false_or, or_false, or_self, Bool.false_eq_true, pe, zx_8, hn, zq_pred, la, zx_n, h1, r4, co, h2, h3, c1]
  · have c2 : ¬ X 0 9 ≤ 116 := by omega
    simp (disch := first | assumption | omega | exact Nat.le_of_ble_eq_true rfl) only [q_G_commit, q_G_commit_0, q_G_commit_0n, q_G_commit_1, q_G_commit_2, q_G_commit_5, q_G_commit_5n, q_G_commit_6, q_G_commit_6n, q_G_commit_7, q_G_commit_7n, q_G_commit_8, q_G_commit_11, q_G_commit_14, q_G_commit_14n, q_G_commit_15, q_G_commit_15n, q_G_commit_16n, q_G_commit_16, q_G_commit_19, q_G_commit_19n, q_G_commit_20n, q_G_commit_20, q_G_commit_23, q_G_commit_23n, q_G_commit_24, q_G_commit_27, q_G_commit_28, q_G_commit_31, q_G_commit_31n, q_G_commit_32, q_G_commit_35, q_G_commit_35n, q_G_commit_36, q_G_commit_39, q_G_commit_42, q_G_commit_45, q_G_commit_46, q_G_commit_47, q_G_commit_47n, q_G_commit_48, q_G_commit_51, q_G_commit_51n, q_G_commit_52, q_G_commit_55, q_G_commit_58, q_G_commit_60, q_G_commit_61, q_G_commit_61n, q_G_commit_62, q_G_commit_65, q_G_commit_67, q_G_commit_70, q_G_commit_70n, q_G_commit_71, q_G_commit_74, q_G_commit_76, q_G_commit_79, q_G_commit_81, Option.bind_some, Option.toList_some, Option.toList_none, List.cons_append, List.nil_append, zq_rf_some, zq_rf_none, ↓reduceIte, zq_lt, zq_le, zq_eq, nI_add, zq_up_s, zq_up_o, zq_up_k, zq_b_eq0, Nat.reduceEqDiff, Nat.reduceLeDiff, Nat.reduceLT, Nat.reduceAdd, not_true_eq_false, not_false_eq_true, Nat.not_lt_zero, zq_on_lt, zq_os, false_or, or_false, or_self, Bool.false_eq_true, pe, zx_8, hn, zq_pred, la, zx_n, h1, r4, co, h2, h3, c1, zx_9, c2]
/-! commit: the new epoch's tree -/
def zc_c3 (X : (Nat → Nat → Nat)) (e p : Nat) : (Nat → Nat → Nat) := zq_up (zc_cp (45 + 8 * (e + 1) + 1) (45 + 8 * e + 1) 15 1 (zc_new X (45 + 8 * (e + 1)) (8 + X (2 + p) 2))) 0 8 (e + 2)
def zc_c4 (X : (Nat → Nat → Nat)) (e p : Nat) : (Nat → Nat → Nat) := zc_au (45 + 8 * (e + 1)) p (X 16 1) 0 (zc_c3 X e p)
def zc_c5 (X : (Nat → Nat → Nat)) (e p : Nat) : (Nat → Nat → Nat) := zc_ar (45 + 8 * (e + 1)) (X 18 1) 0 (zc_c4 X e p)
def zc_c6 (X : (Nat → Nat → Nat)) (e p : Nat) : (Nat → Nat → Nat) := zc_aa (45 + 8 * (e + 1)) (e + 1) (X 20 1) 0 (zc_c5 X e p)
def zc_c7 (X : (Nat → Nat → Nat)) (e p : Nat) : (Nat → Nat → Nat) := zc_rp (45 + 8 * (e + 1)) 4 (8 + X (2 + p) 2) (zc_c6 X e p)
theorem zc_cp_o {k q a j : Nat} (h1 : a ≠ k + 1) (h2 : a ≠ k + 2) : ∀ (c n : Nat) (X : (Nat → Nat → Nat)), zc_cp k q c n X a j = X a j
  | 0, _, _ => rfl
  | c + 1, n, X => by rw [zc_cp, zc_cp_o h1 h2 c, zq_up_o h2, zq_up_o h1]
theorem zc_cp_bd {k q : Nat} : ∀ (c n : Nat) (X : (Nat → Nat → Nat)), zr_bd X → zr_bd (zc_cp k q c n X)
  | 0, _, _, h => h
  | c + 1, n, X, h => zc_cp_bd c _ _ ((h.up (h _ _)).up (h _ _))
theorem zc_c3_o {X : (Nat → Nat → Nat)} {e p a j : Nat} (h : a < 45 + 8 * (e + 1)) (h0 : a ≠ 0 ∨ j ≠ 8) : zc_c3 X e p a j = X a j := by
  unfold zc_c3
  rcases h0 with h0 | h0
  · rw [zq_up_o h0, zc_cp_o (by omega) (by omega), zc_new_o (by omega)]
  · rw [zq_up_k h0, zc_cp_o (by omega) (by omega), zc_new_o (by omega)]
theorem zc_c3_k {X : (Nat → Nat → Nat)} {e p j : Nat} : zc_c3 X e p (45 + 8 * (e + 1)) j = if j = 1 then 8 + X (2 + p) 2 else 0 := by
  unfold zc_c3
  rw [zq_up_o (by omega), zc_cp_o (by omega) (by omega)]
  split
  · rename_i h
    subst h
    exact zc_new_1
  · exact zc_new_z (by omega) (by omega) (by omega)
theorem zc_c3_pr {X : (Nat → Nat → Nat)} {e p : Nat} (hX : zc_pr X) (hp : p < 10) (he : e < 20) : zc_pr (zc_c3 X e p) := by
  have hs := hX.2.2.2.2.2.2.2 p hp
  exact hX.same ((zc_cp_bd _ _ _ (zc_new_bd hX.1 (by omega))).up (by omega)) (fun a j _ _ => zc_c3_o (by omega) (by omega)) (fun q hq => by rw [zc_c3_o (by omega) (by omega)]; exact hX.2.2.2.2.2.2.2 q hq)
theorem zc_au_o {k q a j : Nat} (h1 : a ≠ k + 2) (h2 : a ≠ k + 3) : ∀ (c i : Nat) (X : (Nat → Nat → Nat)), zc_au k q c i X a j = X a j
  | 0, _, _ => rfl
  | c + 1, i, X => by rw [zc_au, zc_au_o h1 h2 c, zc_u1_o h1 h2]
theorem zc_au_bd {k q : Nat} : ∀ (c i : Nat) (X : (Nat → Nat → Nat)), zr_bd X → zr_bd (zc_au k q c i X)
  | 0, _, _, h => h
  | c + 1, i, X, h => zc_au_bd c _ _ (zc_u1_bd h)
theorem zc_c4_o {X : (Nat → Nat → Nat)} {e p a j : Nat} (h : a < 45 + 8 * (e + 1) + 2 ∨ 45 + 8 * (e + 1) + 4 ≤ a) : zc_c4 X e p a j = zc_c3 X e p a j := zc_au_o (by omega) (by omega) _ _ _
theorem zc_c4_pr {X : (Nat → Nat → Nat)} {e p : Nat} (hX : zc_pr X) (hp : p < 10) (he : e < 20) : zc_pr (zc_c4 X e p) := by
  have h := zc_c3_pr hX hp he
  exact h.same (zc_au_bd _ _ _ h.1) (fun a j _ _ => zc_c4_o (by omega)) (fun q hq => by rw [zc_c4_o (by omega)]; exact h.2.2.2.2.2.2.2 q hq)
theorem zc_ar_o {k a j : Nat} (h0 : a ≠ k) (h1 : a ≠ k + 2) (h2 : a ≠ k + 3) : ∀ (c i : Nat) (X : (Nat → Nat → Nat)), zc_ar k c i X a j = X a j
  | 0, _, _ => rfl
  | c + 1, i, X => by rw [zc_ar, zc_ar_o h0 h1 h2 c, zc_r1_o h0 h1 h2]
theorem zc_r1_k {X : (Nat → Nat → Nat)} {k i j : Nat} (hj : j ≠ 4) : zc_r1 X k i k j = X k j := by
  unfold zc_r1
  rw [zc_bA_o (by omega) (by omega), zc_gk_o (by omega) (by omega), zq_up_k hj]
theorem zc_ar_k {k j : Nat} (hj : j ≠ 4) : ∀ (c i : Nat) (X : (Nat → Nat → Nat)), zc_ar k c i X k j = X k j
  | 0, _, _ => rfl
  | c + 1, i, X => by rw [zc_ar, zc_ar_k hj c, zc_r1_k hj]
theorem zc_r1_pr {X : (Nat → Nat → Nat)} {k i : Nat} (hX : zc_pr X) (hk : 45 ≤ k) (hi : i < X 18 1) : zc_pr (zc_r1 X k i) := hX.same (zc_r1_bd hX.1 (hX.2.2.2.2.2.1 i hi)) (fun a j _ _ => zc_r1_o (by omega) (by omega) (by omega)) (fun p hp => by rw [zc_r1_o (by omega) (by omega) (by omega)]; exact hX.2.2.2.2.2.2.2 p hp)
theorem zc_ar_pr {k : Nat} (hk : 45 ≤ k) : ∀ (c i : Nat) (X : (Nat → Nat → Nat)), zc_pr X → i + c = X 18 1 → zc_pr (zc_ar k c i X)
  | 0, _, _, h, _ => h
  | c + 1, i, X, h, hi => zc_ar_pr hk c (i + 1) _ (zc_r1_pr h hk (by omega)) (by rw [zc_r1_o (by omega) (by omega) (by omega)]; omega)
theorem zc_c5_o {X : (Nat → Nat → Nat)} {e p a j : Nat} (h : a < 45 + 8 * (e + 1)) : zc_c5 X e p a j = zc_c3 X e p a j := by
  unfold zc_c5
  rw [zc_ar_o (by omega) (by omega) (by omega), zc_c4_o (by omega)]
theorem zc_c5_pr {X : (Nat → Nat → Nat)} {e p : Nat} (hX : zc_pr X) (hp : p < 10) (he : e < 20) : zc_pr (zc_c5 X e p) := by
  have h := zc_c4_pr hX hp he
  exact zc_ar_pr (by omega) _ _ _ h (by rw [zc_c4_o (by omega), zc_c3_o (by omega) (by omega), Nat.zero_add])
theorem zc_a1_pr {X : (Nat → Nat → Nat)} {k i e : Nat} (hX : zc_pr X) (hk : 45 ≤ k) (hi : i < X 20 1) (he : e < 100) : zc_pr (zc_a1 X k (X 21 i) e) := by
  have pi := hX.2.2.2.2.2.2.1 i hi
  exact hX.same (zc_a1_bd hX.1 (by omega)) (fun a j _ _ => zc_a1_o (by omega) (by omega) (by omega) (by omega)) (fun q hq => zc_a1_seat hk pi hq hX.2.2.2.2.2.2.2)
theorem zc_aa_pr {k e : Nat} (hk : 45 ≤ k) (he : e < 100) : ∀ (c i : Nat) (X : (Nat → Nat → Nat)), zc_pr X → i + c = X 20 1 → zc_pr (zc_aa k e c i X)
  | 0, _, _, h, _ => h
  | c + 1, i, X, h, hi => by
    have pi := h.2.2.2.2.2.2.1 i (by omega)
    exact zc_aa_pr hk he c (i + 1) _ (zc_a1_pr h hk (by omega) he) (by rw [zc_a1_o (by omega) (by omega) (by omega) (by omega)]; omega)
theorem zc_aa_o {k e a j : Nat} (hk : 45 ≤ k) (he : e < 100) (h : 12 ≤ a ∧ a < k ∨ k + 4 ≤ a ∨ a = 0 ∨ a = k + 1) : ∀ (c i : Nat) (X : (Nat → Nat → Nat)), zc_pr X → i + c = X 20 1 → zc_aa k e c i X a j = X a j
  | 0, _, _, _, _ => rfl
  | c + 1, i, X, hX, hi => by
    have pi := hX.2.2.2.2.2.2.1 i (by omega)
    rw [zc_aa, zc_aa_o hk he h c (i + 1) _ (zc_a1_pr hX hk (by omega) he) (by rw [zc_a1_o (by omega) (by omega) (by omega) (by omega)]; omega), zc_a1_o (by omega) (by omega) (by omega) (by omega)]
theorem zc_a1_k {X : (Nat → Nat → Nat)} {k p e j : Nat} (hk : 45 ≤ k) (hp : p < 10) (hj : j ≠ 5) : zc_a1 X k p e k j = X k j := by
  unfold zc_a1
  split
  · rw [zc_jn, zq_up_o (by omega), zq_up_o (by omega), zq_up_o (by omega), zq_up_k hj, zc_mk_o (by omega), zc_gk_o (by omega) (by omega)]
  · rfl
theorem zc_aa_k {k e j : Nat} (hk : 45 ≤ k) (he : e < 100) (hj : j ≠ 5) : ∀ (c i : Nat) (X : (Nat → Nat → Nat)), zc_pr X → i + c = X 20 1 → zc_aa k e c i X k j = X k j
  | 0, _, _, _, _ => rfl
  | c + 1, i, X, hX, hi => by
    have pi := hX.2.2.2.2.2.2.1 i (by omega)
    rw [zc_aa, zc_aa_k hk he hj c (i + 1) _ (zc_a1_pr hX hk (by omega) he) (by rw [zc_a1_o (by omega) (by omega) (by omega) (by omega)]; omega), zc_a1_k hk pi hj]
theorem zc_c5_20 {X : (Nat → Nat → Nat)} {e p : Nat} : 0 + X 20 1 = zc_c5 X e p 20 1 := by
  rw [zc_c5_o (by omega), zc_c3_o (by omega) (by omega), Nat.zero_add]
theorem zc_c6_pr {X : (Nat → Nat → Nat)} {e p : Nat} (hX : zc_pr X) (hp : p < 10) (he : e < 20) : zc_pr (zc_c6 X e p) := zc_aa_pr (by omega) (by omega) _ _ _ (zc_c5_pr hX hp he) zc_c5_20
theorem zc_c6_o {X : (Nat → Nat → Nat)} {e p a j : Nat} (hX : zc_pr X) (hp : p < 10) (he : e < 20) (h : 12 ≤ a ∧ a < 45 + 8 * (e + 1) ∨ a = 0) : zc_c6 X e p a j = zc_c3 X e p a j := by
  unfold zc_c6
  rw [zc_aa_o (by omega) (by omega) (by omega) _ _ _ (zc_c5_pr hX hp he) zc_c5_20, zc_c5_o (by omega)]
theorem zc_c6_1 {X : (Nat → Nat → Nat)} {e p : Nat} (hX : zc_pr X) (hp : p < 10) (he : e < 20) : zc_c6 X e p (45 + 8 * (e + 1)) 1 = 8 + X (2 + p) 2 := by
  unfold zc_c6
  rw [zc_aa_k (by omega) (by omega) (by omega) _ _ _ (zc_c5_pr hX hp he) zc_c5_20]
  unfold zc_c5
  rw [zc_ar_k (by omega), zc_c4_o (by omega), zc_c3_k]
  rfl
theorem zc_rp_o {k a j : Nat} (h0 : a ≠ 0 ∨ j ≠ 9) (h1 : a ≠ k + 2) (h2 : a ≠ k + 3) : ∀ (c n : Nat) (X : (Nat → Nat → Nat)), zc_rp k c n X a j = X a j
  | 0, _, _ => rfl
  | c + 1, n, X => by
    rw [zc_rp]
    split
    · rfl
    · rw [zc_rp_o h0 h1 h2 c, zc_gk_o (by omega) (by omega)]
      rcases h0 with h | h
      · rw [zq_up_o h]
      · rw [zq_up_k h]
theorem zc_rp_bd {k : Nat} : ∀ (c n : Nat) (X : (Nat → Nat → Nat)), zr_bd X → X 0 9 + c < 65536 → zr_bd (zc_rp k c n X)
  | 0, _, _, h, _ => h
  | c + 1, n, X, h, hc => by
    rw [zc_rp]
    split
    · exact h
    · refine zc_rp_bd c _ _ (zc_gk_bd (h.up (by omega)) (by omega)) ?_
      rw [zc_gk_o (by omega) (by omega), zq_up_s]
      omega
theorem zc_c7_o {X : (Nat → Nat → Nat)} {e p a j : Nat} (h0 : a ≠ 0 ∨ j ≠ 9) (h : a < 45 + 8 * (e + 1) + 2 ∨ 45 + 8 * (e + 1) + 4 ≤ a) : zc_c7 X e p a j = zc_c6 X e p a j := zc_rp_o h0 (by omega) (by omega) _ _ _
theorem zc_c7_pr {X : (Nat → Nat → Nat)} {e p : Nat} (hX : zc_pr X) (hp : p < 10) (he : e < 20) (h9 : X 0 9 ≤ 116) : zc_pr (zc_c7 X e p) := by
  have h := zc_c6_pr hX hp he
  refine h.same (zc_rp_bd _ _ _ h.1 ?_) (fun a j _ _ => zc_c7_o (by omega) (by omega)) (fun q hq => by rw [zc_c7_o (by omega) (by omega)]; exact h.2.2.2.2.2.2.2 q hq)
  rw [zc_c6_o hX hp he (by omega), zc_c3_o (by omega) (by omega)]
  omega
/-- what the commit sends: first to the group, then to those who join -/
def zc_c8 (X : (Nat → Nat → Nat)) (e p : Nat) (ad : Nat → Bool) : List (Nat × Nat) := zc_pm (zc_c7 X e p (45 + 8 * (e + 1) + 2)) (zc_c7 X e p (45 + 8 * (e + 1) + 3)) ad 4 (8 + X (2 + p) 2) ++ zc_we (X 21) (fun q => zc_c7 X e p (2 + q) 2) (fun q => zc_c7 X e p (2 + q) 3) (zc_c7 X e p (45 + 8 * (e + 1) + 2)) (8 + X (2 + p) 2) (X 20 1) 0
/-- the group when the commit has sent all and cleared the proposals: only the listener has yet to grow -/
def zc_c9 (X : (Nat → Nat → Nat)) (e p : Nat) (ad : Nat → Bool) : (Nat → Nat → Nat) := zc_cl3 (zc_cu (X 16 1) 0 (zq_up (zc_sm (45 + 8 * (e + 1)) (zc_c7 X e p) (zc_c8 X e p ad)) (2 + p) 1 (e + 1)))
theorem zc_eq.cu : ∀ (c i : Nat) {X Y : (Nat → Nat → Nat)}, zc_eq X Y → zc_eq (zc_cu c i X) (zc_cu c i Y)
  | 0, _, _, _, h => h
  | c + 1, i, X, Y, h => by
    rw [zc_cu, zc_cu, h 17 i (by omega)]
    exact zc_eq.cu c (i + 1) (h.up _ _ _)
theorem zc_cu_bd : ∀ (c i : Nat) (X : (Nat → Nat → Nat)), zr_bd X → zr_bd (zc_cu c i X)
  | 0, _, _, h => h
  | c + 1, i, X, h => zc_cu_bd c _ _ (h.up (by decide))
theorem zc_cl3_bd {X : (Nat → Nat → Nat)} (h : zr_bd X) : zr_bd (zc_cl3 X) := ((h.up (by decide)).up (by decide)).up (by decide)
theorem zc_eq.cl3 {X Y : (Nat → Nat → Nat)} (h : zc_eq X Y) : zc_eq (zc_cl3 X) (zc_cl3 Y) := ((h.up _ _ _).up _ _ _).up _ _ _
theorem zc_we_congr {jn st st' pu pu' K : Nat → Nat} {cn : Nat} : ∀ (c i : Nat), (∀ j, i ≤ j → j < i + c → st (jn j) = st' (jn j) ∧ pu (jn j) = pu' (jn j)) → zc_we jn st pu K cn c i = zc_we jn st' pu' K cn c i
  | 0, _, _ => rfl
  | c + 1, i, h => by
    obtain ⟨h1, h2⟩ := h i (Nat.le_refl _) (by omega)
    rw [zc_we, zc_we, h1, h2, zc_we_congr c (i + 1) (fun j a b => h j (by omega) (by omega))]
theorem zc_gl_o {a j : Nat} (h : 16 ≤ a ∨ a < 13) : ∀ (c e : Nat) (X : (Nat → Nat → Nat)), zc_gl c e X a j = X a j
  | 0, _, _ => rfl
  | c + 1, e, X => by rw [zc_gl, zc_gl_o h c, zc_fo_o h]
theorem k_commit {d kx g e p : Nat} {sh : zq_S} {P : zq_P} {X : (Nat → Nat → Nat)} {I0 : zq_I} (hG : zc_lay g (e + 1) sh P) (hX : zc_pr X) (hn : X 0 8 = e + 1) (he : e < 20) (hp : p < 10) (h1 : X (2 + p) 0 = 2) (h2 : ¬ zc_in X 18 (X (2 + p) 2)) (h3 : X (2 + p) 1 = e) (h4 : X 0 9 ≤ 116)
    (ad : Nat → Bool) (hre : ∀ m, 1 ≤ m → m < 16 → (zr_re (zc_c7 X e p (45 + 8 * (e + 1) + 2)) (zc_c7 X e p (45 + 8 * (e + 1) + 3)) m).length ≤ 15) (ha : ∀ x, x < 16 → ((8 ≤ x ∧ ¬ zq_bt (zc_c7 X e p (45 + 8 * (e + 1)) 5) (x - 8) = 0) ↔ ad x = true))
    (hZ : ∀ Z, zc_eq (zc_c9 X e p ad) Z → zr_bd Z → zc_lg Z ∧ Z 0 8 = e + 2 ∧ ∀ f, 1 ≤ f → f < e + 2 → zc_ms Z (45 + 8 * f) ∧ zc_pt Z (45 + 8 * f)) :
    ∃ Z, zc_eq (zc_c9 X e p ad) Z ∧ zr_bd Z ∧ zq_C (d + 9) 7 [.ref g, .int (nI p)] sh (zx g X I0) P (g + (45 + 8 * (e + 1))) kx = some (some (.int (nI (e + 1))), zc_nsh sh (g + (45 + 8 * (e + 1))), zx g (zc_gl (e + 1) 1 Z) I0, zc_nP2 P g (e + 1), g + (45 + 8 * (e + 2)), kx + 76) := by
  obtain ⟨b1, b2, b3, b4, b5, b6, b7, b8⟩ := id hX
  have bs := b8 p hp
  have k7 := zc_c7_pr hX hp he h4
  have k6 := zc_c6_pr hX hp he
  have k5 := zc_c5_pr hX hp he
  have k4 := zc_c4_pr hX hp he
  have k3 := zc_c3_pr hX hp he
  have hG2 := zc_n2_lay hG
  have hG1 : zc_lay g (e + 1) (zc_nsh sh (g + (45 + 8 * (e + 1)))) (zc_nP P (g + (45 + 8 * (e + 1)))) := hG.kp zc_n_kp (Nat.le_refl _) (fun f hf => by rw [zc_nP_o (by omega)])
  have hE := (hG2.2.2.2.2.2.2.2.2.2.2.2.2.2.2.2.2.2.2.2.2 (e + 1) (by omega)).2
  have hE1 := zc_n_ep (g := g) (k := 45 + 8 * (e + 1)) (sh := sh) (P := P) (by omega)
  have one : zc_c7 X e p (45 + 8 * (e + 1)) 1 = 8 + X (2 + p) 2 := by rw [zc_c7_o (by omega) (by omega), zc_c6_1 hX hp he]
  obtain ⟨X8, f1, f2, f3⟩ := c_sendTo (d := d) (nx := g + (45 + 8 * (e + 2))) (kx := kx + 76) (I0 := I0) (X := zc_c7 X e p) hG2 hE ad hre k7.1 ha (by rw [one]; omega)
  rw [one] at f2
  have o8 : ∀ a j, a < 22 ∨ 26 ≤ a ∧ a < 45 + 8 * (e + 1) + 4 → X8 a j = zc_c7 X e p a j := fun a j q => by rw [f2 a j (by omega), zc_sm_o (by omega)]
  have k8 : zc_pr X8 := k7.same f3 (fun a j _ _ => o8 a j (by omega)) (fun q hq => by rw [o8 _ _ (by omega)]; exact k7.2.2.2.2.2.2.2 q hq)
  have we := c_welcomes (d := d + 6) (nx := g + (45 + 8 * (e + 2))) (kx := kx + 76) (I0 := I0) hG2 hE k8 (by rw [o8 _ _ (by omega), one]; omega) (by rw [o8 _ _ (by omega), one]; omega)
  have c21 : ∀ i, zc_c7 X e p 21 i = X 21 i := fun i => by rw [zc_c7_o (by omega) (by omega), zc_c6_o hX hp he (by omega), zc_c3_o (by omega) (by omega)]
  have c20 : zc_c7 X e p 20 1 = X 20 1 := by rw [zc_c7_o (by omega) (by omega), zc_c6_o hX hp he (by omega), zc_c3_o (by omega) (by omega)]
  have e21 : X8 21 = X 21 := by funext i; rw [o8 _ _ (by omega), c21]
  have eK : X8 (45 + 8 * (e + 1) + 2) = zc_c7 X e p (45 + 8 * (e + 1) + 2) := by funext m; rw [o8 _ _ (by omega)]
  have ewe : zc_we (X8 21) (fun q => X8 (2 + q) 2) (fun q => X8 (2 + q) 3) (X8 (45 + 8 * (e + 1) + 2)) (X8 (45 + 8 * (e + 1)) 1) (X8 20 1) 0 = zc_we (X 21) (fun q => zc_c7 X e p (2 + q) 2) (fun q => zc_c7 X e p (2 + q) 3) (zc_c7 X e p (45 + 8 * (e + 1) + 2)) (8 + X (2 + p) 2) (X 20 1) 0 := by
    rw [e21, eK, o8 _ 1 (by omega), one, o8 20 1 (by omega), c20]
    refine zc_we_congr _ _ (fun j _ hj => ?_)
    have := b7 j (by omega)
    exact ⟨o8 _ _ (by omega), o8 _ _ (by omega)⟩
  rw [ewe] at we
  have hq8 : zc_eq (zc_sm (45 + 8 * (e + 1)) (zc_c7 X e p) (zc_c8 X e p ad)) (zc_sm (45 + 8 * (e + 1)) X8 (zc_we (X 21) (fun q => zc_c7 X e p (2 + q) 2) (fun q => zc_c7 X e p (2 + q) 3) (zc_c7 X e p (45 + 8 * (e + 1) + 2)) (8 + X (2 + p) 2) (X 20 1) 0)) := by
    unfold zc_c8
    rw [zc_sm_app]
    exact zc_eq.sm (by omega) _ f2
  have bwe : ∀ q ∈ zc_we (X 21) (fun q => zc_c7 X e p (2 + q) 2) (fun q => zc_c7 X e p (2 + q) 3) (zc_c7 X e p (45 + 8 * (e + 1) + 2)) (8 + X (2 + p) 2) (X 20 1) 0, q.1 < 65536 ∧ q.2 < 65536 := by
    have key : ∀ c i, ∀ q ∈ zc_we (X 21) (fun q => zc_c7 X e p (2 + q) 2) (fun q => zc_c7 X e p (2 + q) 3) (zc_c7 X e p (45 + 8 * (e + 1) + 2)) (8 + X (2 + p) 2) c i, q.1 < 65536 ∧ q.2 < 65536 := by
      intro c
      induction c with
      | zero => intro i q hq; cases hq
      | succ c ih =>
        intro i q hq
        rw [zc_we] at hq
        rcases List.mem_cons.mp hq with rfl | hq
        · exact ⟨k7.1 _ _, k7.1 _ _⟩
        · rcases List.mem_cons.mp hq with rfl | hq
          · exact ⟨show 0 < 65536 by decide, k7.1 _ _⟩
          · exact ih _ q hq
    exact key _ _
  generalize hX9 : zc_sm (45 + 8 * (e + 1)) X8 (zc_we (X 21) (fun q => zc_c7 X e p (2 + q) 2) (fun q => zc_c7 X e p (2 + q) 3) (zc_c7 X e p (45 + 8 * (e + 1) + 2)) (8 + X (2 + p) 2) (X 20 1) 0) = X9 at we hq8
  have o9 : ∀ a j, a < 22 ∨ 26 ≤ a ∧ a < 45 + 8 * (e + 1) + 4 → X9 a j = zc_c7 X e p a j := fun a j q => by rw [← hX9, zc_sm_o (by omega), o8 a j q]
  have hb9 : zr_bd X9 := by rw [← hX9]; exact zc_sm_bd _ _ k8.1 bwe
  have k10 : zc_pr (zq_up X9 (2 + p) 1 (e + 1)) := k7.same (hb9.up (by omega)) (fun a j _ _ => by rw [zq_up_o (by omega), o9 a j (by omega)]) (fun q hq => by rw [zq_up_k (by decide), o9 _ _ (by omega)]; exact k7.2.2.2.2.2.2.2 q hq)
  have c16 : zq_up X9 (2 + p) 1 (e + 1) 16 1 = X 16 1 := by rw [zq_up_o (by omega), o9 _ _ (by omega), zc_c7_o (by omega) (by omega), zc_c6_o hX hp he (by omega), zc_c3_o (by omega) (by omega)]
  have cl := c_clearP (d := d + 7) (nx := g + (45 + 8 * (e + 2))) (kx := kx + 76) (I0 := I0) hG2 k10
  rw [c16] at cl
  have hqZ : zc_eq (zc_c9 X e p ad) (zc_cl3 (zc_cu (X 16 1) 0 (zq_up X9 (2 + p) 1 (e + 1)))) := (zc_eq.cu _ _ (hq8.up _ _ _)).cl3
  have hbZ : zr_bd (zc_cl3 (zc_cu (X 16 1) 0 (zq_up X9 (2 + p) 1 (e + 1)))) := zc_cl3_bd (zc_cu_bd _ _ _ (hb9.up (by omega)))
  have s8 : X9 0 8 = e + 2 := by
    rw [o9 _ _ (by omega), zc_c7_o (by omega) (by omega), zc_c6_o hX hp he (by omega)]
    unfold zc_c3
    rw [zq_up_s]
  generalize zc_cl3 (zc_cu (X 16 1) 0 (zq_up X9 (2 + p) 1 (e + 1))) = Z at cl hqZ hbZ
  obtain ⟨z1, z2, z3⟩ := hZ Z hqZ hbZ
  refine ⟨Z, hqZ, hbZ, ?_⟩
  have gr := c_grow (d := d + 4) (nx := g + (45 + 8 * (e + 2))) (kx := kx + 76) (I0 := I0) hG2 (by omega) z1 z2 z3
  rw [show e + 1 + 1 - 1 = e + 1 from rfl] at gr
  have l8 : zc_gl (e + 1) 1 Z 0 8 = e + 2 := by rw [zc_gl_o (by omega), z2]
  obtain ⟨u0, r0, r1, r2, r3, r4, r5, r6, r7, v1, v2, vp, w1, w2, li, w16, w18, w20, w22, w24, ep⟩ := id hG
  have tp := (vp p hp).2
  have t18 := w18.1
  have pe := c_person (d := d + 8) (nx := g + (45 + 8 * (e + 1))) (kx := kx) (I0 := I0) (X := X) hG hp
  have la := c_last (d := d + 8) (nx := g + (45 + 8 * (e + 1))) (kx := kx) (I0 := I0) hG hn (by omega)
  have co := c_containsN (d := d + 8) (nx := g + (45 + 8 * (e + 1))) (kx := kx) (I0 := I0) w18 b1 b3 (p := X (2 + p) 2) (by omega)
  rw [hn, zq_pred] at la
  have g1 : ¬ 20 ≤ e := by omega
  have sp1 : (zq_us sh (g + (45 + 8 * (e + 1))) (101, 0) (g + (2 + p))).1 = 103 := by
    unfold zq_us
    rw [if_neg (by omega)]
    exact tp
  have i1 : zq_row (zx g X I0) (g + (45 + 8 * (e + 1))) 0 (g + (2 + p)) 2 = nI (X (2 + p) 2) := by rw [zq_row_o (by omega), zx_n (by omega) (by omega)]
  have nl := m_nodeOfLeaf (d := d + 8) (nx := g + (45 + 8 * (e + 1)) + 1) (kx := kx + 6) (sh := zq_us sh (g + (45 + 8 * (e + 1))) (101, 0)) (I := zq_row (zx g X I0) (g + (45 + 8 * (e + 1))) 0) (P := zq_row P (g + (45 + 8 * (e + 1))) none) (X (2 + p) 2)
  have ei := c_epochInit (d := d + 7) (kx := kx + 6) (g := g) (k := 45 + 8 * (e + 1)) (c := 8 + X (2 + p) 2) (sh := sh) (P := P) (X := X) (I0 := I0) (by omega)
  rw [show g + (45 + 8 * (e + 1)) + 8 = g + (45 + 8 * (e + 2)) by omega, show kx + 6 + 70 = kx + 76 from rfl] at ei
  obtain ⟨a1, a2, a3, a4, a5, a6, a7, a8⟩ := hE1
  obtain ⟨y1, y2, y3, y4, y5, y6, y7, y8⟩ := (hG1.2.2.2.2.2.2.2.2.2.2.2.2.2.2.2.2.2.2.2.2 e (by omega)).2
  have a51 := a5.1
  have cpy := c_copy (d := d + 8) (nx := g + (45 + 8 * (e + 2))) (kx := kx + 76) (X := zc_new X (45 + 8 * (e + 1)) (8 + X (2 + p) 2)) (I0 := I0) a5 y5 (by omega)
  have n8 : zc_cp (45 + 8 * (e + 1) + 1) (45 + 8 * e + 1) 15 1 (zc_new X (45 + 8 * (e + 1)) (8 + X (2 + p) 2)) 0 8 = e + 1 := by rw [zc_cp_o (by omega) (by omega), zc_new_o (by omega), hn]
  have u8 : zq_up (zx g (zc_cp (45 + 8 * (e + 1) + 1) (45 + 8 * e + 1) 15 1 (zc_new X (45 + 8 * (e + 1)) (8 + X (2 + p) 2))) I0) g 8 (nI (e + 1)) = zx g (zc_c3 X e p) I0 := zx_u8
  have m8 : zc_c3 X e p 0 8 = e + 2 := by unfold zc_c3; rw [zq_up_s]
  have nP : zq_up (zc_nP P (g + (45 + 8 * (e + 1)))) (g + 12) (e + 1) (some (g + (45 + 8 * (e + 1)))) = zc_nP2 P g (e + 1) := rfl
  have s0 := hG2.1
  have s12 : (zc_nsh sh (g + (45 + 8 * (e + 1))) (g + 12)).1 = 51 := by rw [zc_nsh_o (by omega)]; exact w1
  have s122 : (zc_nsh sh (g + (45 + 8 * (e + 1))) (g + 12)).2 = 21 := by rw [zc_nsh_o (by omega)]; exact w2
  have sp2 : (zc_nsh sh (g + (45 + 8 * (e + 1))) (g + (2 + p))).1 = 103 := by rw [zc_nsh_o (by omega)]; exact tp
  have r1' : zc_nP P (g + (45 + 8 * (e + 1))) g 1 = some (g + 12) := by rw [zc_nP_o (by omega)]; exact r1
  have au := c_applyUpdates (d := d + 4) (nx := g + (45 + 8 * (e + 2))) (kx := kx + 76) (I0 := I0) hG2 hE hp k3
  rw [zc_c3_o (by omega) (by omega)] at au
  have ar := c_applyRemoves (d := d + 4) (nx := g + (45 + 8 * (e + 2))) (kx := kx + 76) (I0 := I0) hG2 hE k4
  rw [zc_c4_o (by omega), zc_c3_o (by omega) (by omega)] at ar
  have aa := c_applyAdds (d := d + 4) (nx := g + (45 + 8 * (e + 2))) (kx := kx + 76) (I0 := I0) (e := e + 1) hG2 hE (by omega) k5 (by rw [zc_c5_o (by omega), m8])
  rw [zc_c5_o (by omega), zc_c3_o (by omega) (by omega)] at aa
  have rp := c_renewPath (d := d + 6) (nx := g + (45 + 8 * (e + 2))) (kx := kx + 76) (I0 := I0) (X := zc_c6 X e p) hG2 hE (by rw [zc_c6_1 hX hp he]; omega)
  rw [zc_c6_1 hX hp he] at rp
  rw [← zc_c4] at au
  rw [← zc_c5] at ar
  rw [← zc_c6] at aa
  rw [← zc_c7] at rp
  simp (disch := first | assumption | omega | exact Nat.le_of_ble_eq_true rfl) only [q_G_commit, q_G_commit_0, q_G_commit_0n, q_G_commit_1, q_G_commit_2, q_G_commit_5, q_G_commit_5n, q_G_commit_6, q_G_commit_6n, q_G_commit_7, q_G_commit_7n, q_G_commit_8, q_G_commit_11, q_G_commit_14, q_G_commit_14n, q_G_commit_15, q_G_commit_15n, q_G_commit_16n, q_G_commit_16, q_G_commit_19, q_G_commit_19n, q_G_commit_20n, q_G_commit_20, q_G_commit_23, q_G_commit_23n, q_G_commit_24, q_G_commit_27, q_G_commit_28, q_G_commit_31, q_G_commit_31n, q_G_commit_32, q_G_commit_35, q_G_commit_35n, q_G_commit_36, q_G_commit_39, q_G_commit_42, q_G_commit_45, q_G_commit_46, q_G_commit_47, q_G_commit_47n, q_G_commit_48, q_G_commit_51, q_G_commit_51n, q_G_commit_52, q_G_commit_55, q_G_commit_58, q_G_commit_60, q_G_commit_61, q_G_commit_61n, q_G_commit_62, q_G_commit_65, q_G_commit_67, q_G_commit_70, q_G_commit_70n, q_G_commit_71, q_G_commit_74, q_G_commit_76, q_G_commit_79, q_G_commit_81, q_G_commit_82, q_G_commit_85, q_G_commit_85i, q_G_commit_86, q_G_commit_86n, q_G_commit_87, q_G_commit_90, q_G_commit_93, q_G_commit_96, q_G_commit_96n, q_G_commit_98, q_G_commit_98n, q_G_commit_100, q_G_commit_103, q_G_commit_103n, q_G_commit_104, q_G_commit_107, q_G_commit_110, q_G_commit_110n, q_G_commit_111, q_G_commit_111i, q_G_commit_112, q_G_commit_115, q_G_commit_116, q_G_commit_117, q_G_commit_120, q_G_commit_120n, q_G_commit_121, q_G_commit_124, q_G_commit_124n, q_G_commit_125, q_G_commit_128, q_G_commit_128n, q_G_commit_130, q_G_commit_131, q_G_commit_131n, q_G_commit_132, q_G_commit_132n, q_G_commit_134, q_G_commit_135, q_G_commit_138, q_G_commit_138n, q_G_commit_139, q_G_commit_139n, q_G_commit_141, q_G_commit_144, q_G_commit_144n, q_G_commit_145, q_G_commit_145n, q_G_commit_147, q_G_commit_150, q_G_commit_150n, q_G_commit_151, q_G_commit_151n, q_G_commit_153, q_G_commit_156, q_G_commit_156n, q_G_commit_157, q_G_commit_157n, q_G_commit_159, q_G_commit_162, q_G_commit_162n, q_G_commit_163, q_G_commit_163n, q_G_commit_165, q_G_commit_168, q_G_commit_168n, q_G_commit_169, q_G_commit_169n, q_G_commit_170, q_G_commit_173, q_G_commit_176, q_G_commit_176n, q_G_commit_177, q_G_commit_180, q_G_commit_180n, q_G_commit_181, q_G_commit_184, q_G_commit_184n, q_G_commit_185, q_G_commit_188, Option.bind_some, Option.toList_some, Option.toList_none, List.cons_append, List.nil_append, zq_rf_some, zq_rf_none, ↓reduceIte, zq_lt, zq_le, zq_eq, nI_add, zq_up_s, zq_up_o, zq_up_k, zq_b_eq0, Nat.reduceEqDiff, Nat.reduceLeDiff, Nat.reduceLT, Nat.reduceAdd, not_true_eq_false, not_false_eq_true, Nat.not_lt_zero, zq_on_lt, zq_os, false_or, or_false, or_self, Bool.false_eq_true, pe, zx_8, hn, zq_pred, la, zx_n, h1, r4, co, h2, h3, g1, zx_9, h4, i1, nl, ei, a2, y2, cpy, n8, u8, m8, r1', nP, au, ar, aa, rp, f1, we, s8, zx_u, cl, gr, l8]
