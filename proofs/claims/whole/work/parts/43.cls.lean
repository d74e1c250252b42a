/-! THE GROUP: its layout with ne epochs -/
def zc_lay (g ne : Nat) (sh : zq_S) (P : zq_P) : Prop := (sh g).1 = 100 ∧ P g 0 = some (g + 1) ∧ P g 1 = some (g + 12) ∧ P g 2 = some (g + 13) ∧ P g 3 = some (g + 16) ∧ P g 4 = some (g + 18) ∧ P g 5 = some (g + 20) ∧ P g 6 = some (g + 22) ∧ P g 7 = some (g + 24) ∧ (sh (g + 1)).1 = 53 ∧ (sh (g + 1)).2 = 10 ∧ (∀ p, p < 10 → P (g + 1) p = some (g + (2 + p)) ∧ (sh (g + (2 + p))).1 = 103) ∧ (sh (g + 12)).1 = 51 ∧ (sh (g + 12)).2 = 21 ∧ zc_li g sh P ∧ zc_rw g 16 10 sh P ∧ zc_rw g 18 8 sh P ∧ zc_rw g 20 10 sh P ∧ zc_rw g 22 15 sh P ∧ zc_rw g 24 5 sh P ∧ ∀ e, e < ne → P (g + 12) e = some (g + (45 + 8 * e)) ∧ zc_ep g (45 + 8 * e) sh P
theorem c_person {d nx kx g : Nat} {sh : zq_S} {P : zq_P} {X : Nat → Nat → Nat} {I0 : zq_I} {ne p : Nat} (hG : zc_lay g ne sh P) (hp : p < 10) : zq_C d 25 [.ref g, .int (nI p)] sh (zx g X I0) P nx kx = some (some (.ref (g + (2 + p))), sh, zx g X I0, P, nx, kx) := by
  obtain ⟨u0, r0, r1, r2, r3, r4, r5, r6, r7, v1, v2, vp, w1, w2, li, w16, w18, w20, w22, w24, ep⟩ := id hG
  have q1 : ¬ p < 0 := by omega
  have q2 : ¬ 10 ≤ p := by omega
  have e := (vp p hp).1
  have rr : zq_ref (.ref (g + (2 + p))) = true := rfl
  simp (disch := first | assumption | omega | exact Nat.le_of_ble_eq_true rfl) only [q_G_personNumbered, q_G_personNumbered_0, q_G_personNumbered_1, q_G_personNumbered_4, q_G_personNumbered_5, q_G_personNumbered_7, q_G_personNumbered_10, q_G_personNumbered_10n, q_G_personNumbered_11, q_G_personNumbered_14, q_G_personNumbered_15, q_G_personNumbered_16, q_G_personNumbered_19, q_G_personNumbered_20, Option.bind_some, Option.toList_some, Option.toList_none, List.cons_append, List.nil_append, zq_rf_some, zq_rf_none, ↓reduceIte, zq_lt, zq_le, zq_eq, nI_add, zq_up_s, zq_up_o, zq_up_k, zq_b_eq0, Nat.reduceEqDiff, Nat.reduceLeDiff, Nat.reduceLT, Nat.reduceAdd, not_true_eq_false, not_false_eq_true, Nat.not_lt_zero, zq_on_lt, zq_os, false_or, or_false, or_self, Bool.false_eq_true, q1, q2, r0, e]
theorem c_person_x {d nx kx g : Nat} {sh : zq_S} {P : zq_P} {X : Nat → Nat → Nat} {I0 : zq_I} {ne : Nat} (hG : zc_lay g ne sh P) {x : Int32} (h : x < nI 0 ∨ nI 10 ≤ x) : zq_C d 25 [.ref g, .int x] sh (zx g X I0) P nx kx = some (some .null, sh, zx g X I0, P, nx, kx) := by
  have rr : zq_ref .null = true := rfl
  by_cases h1 : x < nI 0
  · simp (disch := first | assumption | omega | exact Nat.le_of_ble_eq_true rfl) only [q_G_personNumbered, q_G_personNumbered_0, q_G_personNumbered_1, q_G_personNumbered_4, q_G_personNumbered_5, q_G_personNumbered_7, q_G_personNumbered_10, q_G_personNumbered_10n, q_G_personNumbered_11, q_G_personNumbered_14, q_G_personNumbered_15, q_G_personNumbered_16, q_G_personNumbered_19, q_G_personNumbered_20, Option.bind_some, Option.toList_some, Option.toList_none, List.cons_append, List.nil_append, zq_rf_some, zq_rf_none, ↓reduceIte, zq_lt, zq_le, zq_eq, nI_add, zq_up_s, zq_up_o, zq_up_k, zq_b_eq0, Nat.reduceEqDiff, Nat.reduceLeDiff, Nat.reduceLT, Nat.reduceAdd, not_true_eq_false, not_false_eq_true, Nat.not_lt_zero, zq_on_lt, zq_os, false_or, or_false, or_self, Bool.false_eq_true, h1, if_true]
  · have h2 := h.resolve_left h1
    simp (disch := first | assumption | omega | exact Nat.le_of_ble_eq_true rfl) only [q_G_personNumbered, q_G_personNumbered_0, q_G_personNumbered_1, q_G_personNumbered_4, q_G_personNumbered_5, q_G_personNumbered_7, q_G_personNumbered_10, q_G_personNumbered_10n, q_G_personNumbered_11, q_G_personNumbered_14, q_G_personNumbered_15, q_G_personNumbered_16, q_G_personNumbered_19, q_G_personNumbered_20, Option.bind_some, Option.toList_some, Option.toList_none, List.cons_append, List.nil_append, zq_rf_some, zq_rf_none, ↓reduceIte, zq_lt, zq_le, zq_eq, nI_add, zq_up_s, zq_up_o, zq_up_k, zq_b_eq0, Nat.reduceEqDiff, Nat.reduceLeDiff, Nat.reduceLT, Nat.reduceAdd, not_true_eq_false, not_false_eq_true, Nat.not_lt_zero, zq_on_lt, zq_os, false_or, or_false, or_self, Bool.false_eq_true, h1, h2, if_true]
theorem c_epoch {d nx kx g : Nat} {sh : zq_S} {P : zq_P} {X : Nat → Nat → Nat} {I0 : zq_I} {ne e : Nat} (hG : zc_lay g ne sh P) (hX : X 0 8 = ne) (hn : ne ≤ 21) (he : e < ne) : zq_C d 26 [.ref g, .int (nI e)] sh (zx g X I0) P nx kx = some (some (.ref (g + (45 + 8 * e))), sh, zx g X I0, P, nx, kx) := by
  obtain ⟨u0, r0, r1, r2, r3, r4, r5, r6, r7, v1, v2, vp, w1, w2, li, w16, w18, w20, w22, w24, ep⟩ := id hG
  have q1 : ¬ e < 0 := by omega
  have q2 : ¬ ne ≤ e := by omega
  have c := (ep e he).1
  have rr : zq_ref (.ref (g + (45 + 8 * e))) = true := rfl
  simp (disch := first | assumption | omega | exact Nat.le_of_ble_eq_true rfl) only [q_G_epochNumbered, q_G_epochNumbered_0, q_G_epochNumbered_1, q_G_epochNumbered_4, q_G_epochNumbered_5, q_G_epochNumbered_5n, q_G_epochNumbered_6, q_G_epochNumbered_9, q_G_epochNumbered_12, q_G_epochNumbered_12n, q_G_epochNumbered_13, q_G_epochNumbered_16, q_G_epochNumbered_17, q_G_epochNumbered_18, q_G_epochNumbered_21, q_G_epochNumbered_22, Option.bind_some, Option.toList_some, Option.toList_none, List.cons_append, List.nil_append, zq_rf_some, zq_rf_none, ↓reduceIte, zq_lt, zq_le, zq_eq, nI_add, zq_up_s, zq_up_o, zq_up_k, zq_b_eq0, Nat.reduceEqDiff, Nat.reduceLeDiff, Nat.reduceLT, Nat.reduceAdd, not_true_eq_false, not_false_eq_true, Nat.not_lt_zero, zq_on_lt, zq_os, false_or, or_false, or_self, Bool.false_eq_true, q1, q2, zx_8, hX, zq_ne_gt, r1, c]
theorem c_epoch_x {d nx kx g : Nat} {sh : zq_S} {P : zq_P} {X : Nat → Nat → Nat} {I0 : zq_I} {ne : Nat} (hG : zc_lay g ne sh P) {x : Int32} (h : x < nI 0 ∨ nI (X 0 8) - nI 1 < x) : zq_C d 26 [.ref g, .int x] sh (zx g X I0) P nx kx = some (some .null, sh, zx g X I0, P, nx, kx) := by
  obtain ⟨u0, r0, r1, r2, r3, r4, r5, r6, r7, v1, v2, vp, w1, w2, li, w16, w18, w20, w22, w24, ep⟩ := id hG
  have rr : zq_ref .null = true := rfl
  by_cases h1 : x < nI 0
  · simp (disch := first | assumption | omega | exact Nat.le_of_ble_eq_true rfl) only [q_G_epochNumbered, q_G_epochNumbered_0, q_G_epochNumbered_1, q_G_epochNumbered_4, q_G_epochNumbered_5, q_G_epochNumbered_5n, q_G_epochNumbered_6, q_G_epochNumbered_9, q_G_epochNumbered_12, q_G_epochNumbered_12n, q_G_epochNumbered_13, q_G_epochNumbered_16, q_G_epochNumbered_17, q_G_epochNumbered_18, q_G_epochNumbered_21, q_G_epochNumbered_22, Option.bind_some, Option.toList_some, Option.toList_none, List.cons_append, List.nil_append, zq_rf_some, zq_rf_none, ↓reduceIte, zq_lt, zq_le, zq_eq, nI_add, zq_up_s, zq_up_o, zq_up_k, zq_b_eq0, Nat.reduceEqDiff, Nat.reduceLeDiff, Nat.reduceLT, Nat.reduceAdd, not_true_eq_false, not_false_eq_true, Nat.not_lt_zero, zq_on_lt, zq_os, false_or, or_false, or_self, Bool.false_eq_true, h1, if_true]
  · have h2 := h.resolve_left h1
    simp (disch := first | assumption | omega | exact Nat.le_of_ble_eq_true rfl) only [q_G_epochNumbered, q_G_epochNumbered_0, q_G_epochNumbered_1, q_G_epochNumbered_4, q_G_epochNumbered_5, q_G_epochNumbered_5n, q_G_epochNumbered_6, q_G_epochNumbered_9, q_G_epochNumbered_12, q_G_epochNumbered_12n, q_G_epochNumbered_13, q_G_epochNumbered_16, q_G_epochNumbered_17, q_G_epochNumbered_18, q_G_epochNumbered_21, q_G_epochNumbered_22, Option.bind_some, Option.toList_some, Option.toList_none, List.cons_append, List.nil_append, zq_rf_some, zq_rf_none, ↓reduceIte, zq_lt, zq_le, zq_eq, nI_add, zq_up_s, zq_up_o, zq_up_k, zq_b_eq0, Nat.reduceEqDiff, Nat.reduceLeDiff, Nat.reduceLT, Nat.reduceAdd, not_true_eq_false, not_false_eq_true, Nat.not_lt_zero, zq_on_lt, zq_os, false_or, or_false, or_self, Bool.false_eq_true, zx_8, h1, h2, if_true]
theorem c_makeKey {d nx kx g : Nat} {sh : zq_S} {P : zq_P} {X : Nat → Nat → Nat} {I0 : zq_I} {ne : Nat} (hG : zc_lay g ne sh P) : zq_C d 27 [.ref g] sh (zx g X I0) P nx kx = some (some (.int (nI (X 0 9 + 1))), sh, zx g (zq_up X 0 9 (X 0 9 + 1)) I0, P, nx, kx) := by
  obtain ⟨u0, r0, r1, r2, r3, r4, r5, r6, r7, v1, v2, vp, w1, w2, li, w16, w18, w20, w22, w24, ep⟩ := id hG
  simp (disch := first | assumption | omega | exact Nat.le_of_ble_eq_true rfl) only [q_G_makeKey, q_G_makeKey_0, q_G_makeKey_0n, q_G_makeKey_1, q_G_makeKey_1i, q_G_makeKey_2, q_G_makeKey_5, q_G_makeKey_6, q_G_makeKey_7, q_G_makeKey_10, q_G_makeKey_10n, q_G_makeKey_11, q_G_makeKey_14, Option.bind_some, Option.toList_some, Option.toList_none, List.cons_append, List.nil_append, zq_rf_some, zq_rf_none, ↓reduceIte, zq_lt, zq_le, zq_eq, nI_add, zq_up_s, zq_up_o, zq_up_k, zq_b_eq0, Nat.reduceEqDiff, Nat.reduceLeDiff, Nat.reduceLT, Nat.reduceAdd, not_true_eq_false, not_false_eq_true, Nat.not_lt_zero, zq_on_lt, zq_os, false_or, or_false, or_self, Bool.false_eq_true, zx_9, zx_u9]
theorem c_proposals {d nx kx g : Nat} {sh : zq_S} {P : zq_P} {X : Nat → Nat → Nat} {I0 : zq_I} {ne : Nat} (hG : zc_lay g ne sh P) : zq_C d 28 [.ref g] sh (zx g X I0) P nx kx = some (some (.int (nI (X 16 1 + X 18 1 + X 20 1))), sh, zx g X I0, P, nx, kx) := by
  obtain ⟨u0, r0, r1, r2, r3, r4, r5, r6, r7, v1, v2, vp, w1, w2, li, w16, w18, w20, w22, w24, ep⟩ := id hG
  have a1 := w16.1
  have a2 := w18.1
  have a3 := w20.1
  simp (disch := first | assumption | omega | exact Nat.le_of_ble_eq_true rfl) only [q_G_proposalsNow, q_G_proposalsNow_0, q_G_proposalsNow_0n, q_G_proposalsNow_1, q_G_proposalsNow_4, q_G_proposalsNow_7, q_G_proposalsNow_7n, q_G_proposalsNow_8, q_G_proposalsNow_11, q_G_proposalsNow_14, q_G_proposalsNow_15, q_G_proposalsNow_15n, q_G_proposalsNow_16, q_G_proposalsNow_19, q_G_proposalsNow_22, q_G_proposalsNow_23, Option.bind_some, Option.toList_some, Option.toList_none, List.cons_append, List.nil_append, zq_rf_some, zq_rf_none, ↓reduceIte, zq_lt, zq_le, zq_eq, nI_add, zq_up_s, zq_up_o, zq_up_k, zq_b_eq0, Nat.reduceEqDiff, Nat.reduceLeDiff, Nat.reduceLT, Nat.reduceAdd, not_true_eq_false, not_false_eq_true, Nat.not_lt_zero, zq_on_lt, zq_os, false_or, or_false, or_self, Bool.false_eq_true, r3, r4, r5, zx_n]
theorem c_members_go {d nx kx g : Nat} {sh : zq_S} {P : zq_P} {X : Nat → Nat → Nat} {I0 : zq_I} {ne : Nat} (hG : zc_lay g ne sh P) (hX : zr_bd X) : ∀ (c p n : Nat) (v3 : Option Value), p + c = 10 → zq_F (d + 1) 29 4 [some (.ref g), some (.int (nI n)), some (.int (nI p)), v3] [] sh (zx g X I0) P nx kx = some (some (.int (nI (n + zr_ct (fun p => X (2 + p) 0 == 2) c p))), sh, zx g X I0, P, nx, kx)
  | 0, p, n, v3, hp => by
    obtain ⟨u0, r0, r1, r2, r3, r4, r5, r6, r7, v1, v2, vp, w1, w2, li, w16, w18, w20, w22, w24, ep⟩ := id hG
    have q : 10 ≤ p := by omega
    rw [q_G_membersNow_4]
    simp (disch := first | assumption | omega | exact Nat.le_of_ble_eq_true rfl) only [q_G_membersNow_0, q_G_membersNow_1, q_G_membersNow_2, q_G_membersNow_3, q_G_membersNow_5, q_G_membersNow_7, q_G_membersNow_10, q_G_membersNow_10n, q_G_membersNow_11, q_G_membersNow_12, q_G_membersNow_15, q_G_membersNow_15n, q_G_membersNow_16, q_G_membersNow_16n, q_G_membersNow_17n, q_G_membersNow_17, q_G_membersNow_20, q_G_membersNow_20n, q_G_membersNow_21, q_G_membersNow_24, q_G_membersNow_25, q_G_membersNow_28, q_G_membersNow_31, q_G_membersNow_34, q_G_membersNow_37, q_G_membersNow_38, Option.bind_some, Option.toList_some, Option.toList_none, List.cons_append, List.nil_append, zq_rf_some, zq_rf_none, ↓reduceIte, zq_lt, zq_le, zq_eq, nI_add, zq_up_s, zq_up_o, zq_up_k, zq_b_eq0, Nat.reduceEqDiff, Nat.reduceLeDiff, Nat.reduceLT, Nat.reduceAdd, not_true_eq_false, not_false_eq_true, Nat.not_lt_zero, zq_on_lt, zq_os, false_or, or_false, or_self, Bool.false_eq_true, q, zr_ct, Nat.add_zero]
  | c + 1, p, n, v3, hp => by
    obtain ⟨u0, r0, r1, r2, r3, r4, r5, r6, r7, v1, v2, vp, w1, w2, li, w16, w18, w20, w22, w24, ep⟩ := id hG
    have q : ¬ 10 ≤ p := by omega
    have pe := c_person (d := d) (nx := nx) (kx := kx) (X := X) (I0 := I0) hG (p := p) (by omega)
    have t := (vp p (by omega)).2
    have b := hX.lt (2 + p) 0
    by_cases c1 : X (2 + p) 0 = 2
    · have ih := c_members_go (d := d) (nx := nx) (kx := kx) (I0 := I0) hG hX c (p + 1) (n + 1) (some (.ref (g + (2 + p)))) (by omega)
      rw [q_G_membersNow_4]
      simp (disch := first | assumption | omega | exact Nat.le_of_ble_eq_true rfl) only [q_G_membersNow_0, q_G_membersNow_1, q_G_membersNow_2, q_G_membersNow_3, q_G_membersNow_5, q_G_membersNow_7, q_G_membersNow_10, q_G_membersNow_10n, q_G_membersNow_11, q_G_membersNow_12, q_G_membersNow_15, q_G_membersNow_15n, q_G_membersNow_16, q_G_membersNow_16n, q_G_membersNow_17n, q_G_membersNow_17, q_G_membersNow_20, q_G_membersNow_20n, q_G_membersNow_21, q_G_membersNow_24, q_G_membersNow_25, q_G_membersNow_28, q_G_membersNow_31, q_G_membersNow_34, q_G_membersNow_37, q_G_membersNow_38, Option.bind_some, Option.toList_some, Option.toList_none, List.cons_append, List.nil_append, zq_rf_some, zq_rf_none, ↓reduceIte, zq_lt, zq_le, zq_eq, nI_add, zq_up_s, zq_up_o, zq_up_k, zq_b_eq0, Nat.reduceEqDiff, Nat.reduceLeDiff, Nat.reduceLT, Nat.reduceAdd, not_true_eq_false, not_false_eq_true, Nat.not_lt_zero, zq_on_lt, zq_os, false_or, or_false, or_self, Bool.false_eq_true, q, pe, zx_n, c1, ih, zr_ct, beq_self_eq_true, Nat.add_assoc]
    · have ih := c_members_go (d := d) (nx := nx) (kx := kx) (I0 := I0) hG hX c (p + 1) n (some (.ref (g + (2 + p)))) (by omega)
      have c2 : (X (2 + p) 0 == 2) = false := by simp [c1]
      rw [q_G_membersNow_4]
      simp (disch := first | assumption | omega | exact Nat.le_of_ble_eq_true rfl) only [q_G_membersNow_0, q_G_membersNow_1, q_G_membersNow_2, q_G_membersNow_3, q_G_membersNow_5, q_G_membersNow_7, q_G_membersNow_10, q_G_membersNow_10n, q_G_membersNow_11, q_G_membersNow_12, q_G_membersNow_15, q_G_membersNow_15n, q_G_membersNow_16, q_G_membersNow_16n, q_G_membersNow_17n, q_G_membersNow_17, q_G_membersNow_20, q_G_membersNow_20n, q_G_membersNow_21, q_G_membersNow_24, q_G_membersNow_25, q_G_membersNow_28, q_G_membersNow_31, q_G_membersNow_34, q_G_membersNow_37, q_G_membersNow_38, Option.bind_some, Option.toList_some, Option.toList_none, List.cons_append, List.nil_append, zq_rf_some, zq_rf_none, ↓reduceIte, zq_lt, zq_le, zq_eq, nI_add, zq_up_s, zq_up_o, zq_up_k, zq_b_eq0, Nat.reduceEqDiff, Nat.reduceLeDiff, Nat.reduceLT, Nat.reduceAdd, not_true_eq_false, not_false_eq_true, Nat.not_lt_zero, zq_on_lt, zq_os, false_or, or_false, or_self, Bool.false_eq_true, q, pe, zx_n, c1, ih, zr_ct, c2, Nat.zero_add]
theorem c_members {d nx kx g : Nat} {sh : zq_S} {P : zq_P} {X : Nat → Nat → Nat} {I0 : zq_I} {ne : Nat} (hG : zc_lay g ne sh P) (hX : zr_bd X) : zq_C (d + 1) 29 [.ref g] sh (zx g X I0) P nx kx = some (some (.int (nI (zr_ct (fun p => X (2 + p) 0 == 2) 10 0))), sh, zx g X I0, P, nx, kx) := by
  have go := c_members_go (d := d) (nx := nx) (kx := kx) (I0 := I0) hG hX 10 0 0 none rfl
  rw [Nat.zero_add] at go
  simp (disch := first | assumption | omega | exact Nat.le_of_ble_eq_true rfl) only [q_G_membersNow, q_G_membersNow_0, q_G_membersNow_1, q_G_membersNow_2, q_G_membersNow_3, q_G_membersNow_5, q_G_membersNow_7, q_G_membersNow_10, q_G_membersNow_10n, q_G_membersNow_11, q_G_membersNow_12, q_G_membersNow_15, q_G_membersNow_15n, q_G_membersNow_16, q_G_membersNow_16n, q_G_membersNow_17n, q_G_membersNow_17, q_G_membersNow_20, q_G_membersNow_20n, q_G_membersNow_21, q_G_membersNow_24, q_G_membersNow_25, q_G_membersNow_28, q_G_membersNow_31, q_G_membersNow_34, q_G_membersNow_37, q_G_membersNow_38, Option.bind_some, Option.toList_some, Option.toList_none, List.cons_append, List.nil_append, zq_rf_some, zq_rf_none, ↓reduceIte, zq_lt, zq_le, zq_eq, nI_add, zq_up_s, zq_up_o, zq_up_k, zq_b_eq0, Nat.reduceEqDiff, Nat.reduceLeDiff, Nat.reduceLT, Nat.reduceAdd, not_true_eq_false, not_false_eq_true, Nat.not_lt_zero, zq_on_lt, zq_os, false_or, or_false, or_self, Bool.false_eq_true, go]
theorem c_usedNow {d nx kx g : Nat} {sh : zq_S} {P : zq_P} {X : Nat → Nat → Nat} {I0 : zq_I} {ne : Nat} (hG : zc_lay g ne sh P) (hX : zr_bd X) (hn : X 0 8 = ne) (h21 : ne ≤ 21) : zq_C (d + 4) 30 [.ref g] sh (zx g X I0) P nx kx = some (some (.int (if ne = 0 then nI 0 else nI (zc_ul X (45 + 8 * (ne - 1) + 1) 8 0))), sh, zx g X I0, P, nx, kx) := by
  obtain ⟨u0, r0, r1, r2, r3, r4, r5, r6, r7, v1, v2, vp, w1, w2, li, w16, w18, w20, w22, w24, ep⟩ := id hG
  cases ne with
  | zero =>
    have ex := c_epoch_x (d := d + 3) (nx := nx) (kx := kx) (X := X) (I0 := I0) hG (x := nI 0 - nI 1) (Or.inl (by decide))
    simp (disch := first | assumption | omega | exact Nat.le_of_ble_eq_true rfl) only [q_G_usedLeavesNow, q_G_usedLeavesNow_0, q_G_usedLeavesNow_0n, q_G_usedLeavesNow_1, q_G_usedLeavesNow_1n, q_G_usedLeavesNow_2, q_G_usedLeavesNow_5, q_G_usedLeavesNow_8, q_G_usedLeavesNow_8n, q_G_usedLeavesNow_9, q_G_usedLeavesNow_9n, q_G_usedLeavesNow_10n, q_G_usedLeavesNow_10, q_G_usedLeavesNow_13, q_G_usedLeavesNow_14, q_G_usedLeavesNow_17, q_G_usedLeavesNow_17n, q_G_usedLeavesNow_18, q_G_usedLeavesNow_21, q_G_usedLeavesNow_24, Option.bind_some, Option.toList_some, Option.toList_none, List.cons_append, List.nil_append, zq_rf_some, zq_rf_none, ↓reduceIte, zq_lt, zq_le, zq_eq, nI_add, zq_up_s, zq_up_o, zq_up_k, zq_b_eq0, Nat.reduceEqDiff, Nat.reduceLeDiff, Nat.reduceLT, Nat.reduceAdd, not_true_eq_false, not_false_eq_true, Nat.not_lt_zero, zq_on_lt, zq_os, false_or, or_false, or_self, Bool.false_eq_true, zx_8, hn, ex]
  | succ e =>
    have ex := c_epoch (d := d + 3) (nx := nx) (kx := kx) (X := X) (I0 := I0) hG hn h21 (Nat.lt_succ_self e)
    have us := c_used (d := d) (nx := nx) (kx := kx) (X := X) (I0 := I0) (ep e (Nat.lt_succ_self e)).2.2.2.2.2.1 hX
    obtain ⟨a1, a2, a3, a4, a5, a6, a7, a8⟩ := (ep e (Nat.lt_succ_self e)).2
    have a51 := a5.1
    have z : ¬ e + 1 = 0 := by omega
    simp (disch := first | assumption | omega | exact Nat.le_of_ble_eq_true rfl) only [q_G_usedLeavesNow, q_G_usedLeavesNow_0, q_G_usedLeavesNow_0n, q_G_usedLeavesNow_1, q_G_usedLeavesNow_1n, q_G_usedLeavesNow_2, q_G_usedLeavesNow_5, q_G_usedLeavesNow_8, q_G_usedLeavesNow_8n, q_G_usedLeavesNow_9, q_G_usedLeavesNow_9n, q_G_usedLeavesNow_10n, q_G_usedLeavesNow_10, q_G_usedLeavesNow_13, q_G_usedLeavesNow_14, q_G_usedLeavesNow_17, q_G_usedLeavesNow_17n, q_G_usedLeavesNow_18, q_G_usedLeavesNow_21, q_G_usedLeavesNow_24, Option.bind_some, Option.toList_some, Option.toList_none, List.cons_append, List.nil_append, zq_rf_some, zq_rf_none, ↓reduceIte, zq_lt, zq_le, zq_eq, nI_add, zq_up_s, zq_up_o, zq_up_k, zq_b_eq0, Nat.reduceEqDiff, Nat.reduceLeDiff, Nat.reduceLT, Nat.reduceAdd, not_true_eq_false, not_false_eq_true, Nat.not_lt_zero, zq_on_lt, zq_os, false_or, or_false, or_self, Bool.false_eq_true, zx_8, hn, zq_pred, ex, a2, us, z, Nat.add_sub_cancel]
/-! frames -/
theorem zc_gk_o {X : (Nat → Nat → Nat)} {k n v a j : Nat} (h1 : a ≠ k + 1) (h2 : a ≠ k + 2) : zc_gk X k n v a j = X a j := by
  unfold zc_gk
  rw [zq_up_o h2, zq_up_o h1]
theorem zc_gk_bd {X : (Nat → Nat → Nat)} (h : zr_bd X) {k n v : Nat} (hv : v < 65536) : zr_bd (zc_gk X k n v) := (h.up hv).up (by decide)
theorem zc_bA_o {k a j : Nat} (h1 : a ≠ k + 1) (h2 : a ≠ k + 2) : ∀ (c n : Nat) (X : (Nat → Nat → Nat)), zc_bA k c n X a j = X a j
  | 0, _, _ => rfl
  | c + 1, n, X => by
    rw [zc_bA]
    split
    · rfl
    · rw [zc_bA_o h1 h2 c, zc_gk_o h1 h2]
theorem zc_bA_bd {k : Nat} : ∀ (c n : Nat) (X : (Nat → Nat → Nat)), zr_bd X → zr_bd (zc_bA k c n X)
  | 0, _, _, h => h
  | c + 1, n, X, h => by
    rw [zc_bA]
    split
    · exact h
    · exact zc_bA_bd c _ _ (zc_gk_bd h (by decide))
theorem zc_mk_o {k l a j : Nat} (h2 : a ≠ k + 2) : ∀ (c n : Nat) (X : (Nat → Nat → Nat)), zc_mk k l c n X a j = X a j
  | 0, _, _ => rfl
  | c + 1, n, X => by
    rw [zc_mk]
    split
    · rfl
    · rw [zc_mk_o h2 c]
      split
      · rfl
      · rw [zq_up_o h2]
theorem zc_mk_bd {k l : Nat} (hl : l < 8) : ∀ (c n : Nat) (X : (Nat → Nat → Nat)), zr_bd X → zr_bd (zc_mk k l c n X)
  | 0, _, _, h => h
  | c + 1, n, X, h => by
    rw [zc_mk]
    split
    · exact h
    · refine zc_mk_bd hl c _ _ ?_
      split
      · exact h
      · exact h.up (h.or (by omega))
theorem zc_lb_le (X : (Nat → Nat → Nat)) (k : Nat) : ∀ c l, zc_lb X k c l ≤ l + c
  | 0, l => Nat.le_refl _
  | c + 1, l => by
    rw [zc_lb]
    split
    · omega
    · have := zc_lb_le X k c (l + 1)
      omega
/-- the rows of proposals and the seats are in range -/
def zc_pr (X : (Nat → Nat → Nat)) : Prop := zr_bd X ∧ X 16 1 ≤ 10 ∧ X 18 1 ≤ 8 ∧ X 20 1 ≤ 10 ∧ (∀ i, i < X 16 1 → X 17 i < 10) ∧ (∀ i, i < X 18 1 → X 19 i < 8) ∧ (∀ i, i < X 20 1 → X 21 i < 10) ∧ ∀ p, p < 10 → X (2 + p) 2 < 8
theorem zc_pr.same {X Y : (Nat → Nat → Nat)} (h : zc_pr X) (hb : zr_bd Y) (h1 : ∀ a j, 16 ≤ a → a < 22 → Y a j = X a j) (h2 : ∀ p, p < 10 → Y (2 + p) 2 < 8) : zc_pr Y := by
  obtain ⟨a, b, c, d, e, f, g, i⟩ := h
  unfold zc_pr
  rw [h1 16 1 (by decide) (by decide), h1 18 1 (by decide) (by decide), h1 20 1 (by decide) (by decide)]
  refine ⟨hb, b, c, d, ?_, ?_, ?_, h2⟩
  · intro j hj
    rw [h1 17 j (by decide) (by decide)]
    exact e j hj
  · intro j hj
    rw [h1 19 j (by decide) (by decide)]
    exact f j hj
  · intro j hj
    rw [h1 21 j (by decide) (by decide)]
    exact g j hj
def zc_u1 (X : (Nat → Nat → Nat)) (k q i : Nat) : (Nat → Nat → Nat) := if X 17 i = q then X else zc_bA (k + 1) 3 ((8 + X (2 + X 17 i) 2) / 2) (zc_gk X (k + 1) (8 + X (2 + X 17 i) 2) (X (2 + X 17 i) 4))
theorem zc_u1_o {X : (Nat → Nat → Nat)} {k q i a j : Nat} (h1 : a ≠ k + 2) (h2 : a ≠ k + 3) : zc_u1 X k q i a j = X a j := by
  unfold zc_u1
  split
  · rfl
  · rw [zc_bA_o (by omega) (by omega), zc_gk_o (by omega) (by omega)]
theorem zc_u1_bd {X : (Nat → Nat → Nat)} (h : zr_bd X) {k q i : Nat} : zr_bd (zc_u1 X k q i) := by
  unfold zc_u1
  split
  · exact h
  · exact zc_bA_bd _ _ _ (zc_gk_bd h (h _ _))
def zc_au (k q : Nat) : Nat → Nat → (Nat → Nat → Nat) → (Nat → Nat → Nat)
  | 0, _, X => X
  | c + 1, i, X => zc_au k q c (i + 1) (zc_u1 X k q i)
theorem c_applyUpdates_go {d nx kx g : Nat} {sh : zq_S} {P : zq_P} {I0 : zq_I} {ne k q : Nat} (hG : zc_lay g ne sh P) (h : zc_ep g k sh P) (hq : q < 10) : ∀ (c i : Nat) (X : (Nat → Nat → Nat)) (v4 v5 : Option Value), zc_pr X → i + c = X 16 1 → zq_F (d + 4) 31 2 [some (.ref g), some (.ref (g + k)), some (.int (nI q)), some (.int (nI i)), v4, v5] [] sh (zx g X I0) P nx kx = some (none, sh, zx g (zc_au k q c i X) I0, P, nx, kx)
  | 0, i, X, v4, v5, hX, hi => by
    obtain ⟨u0, r0, r1, r2, r3, r4, r5, r6, r7, v1, v2, vp, w1, w2, li, w16, w18, w20, w22, w24, ep⟩ := id hG
    have b := hX.1.lt 16 1
    have a1 := w16.1
    have z : X 16 1 ≤ i := by omega
    rw [q_G_applyUpdates_2]
    simp (disch := first | assumption | omega | exact Nat.le_of_ble_eq_true rfl) only [q_G_applyUpdates_0, q_G_applyUpdates_1, q_G_applyUpdates_3, q_G_applyUpdates_3n, q_G_applyUpdates_4, q_G_applyUpdates_7, q_G_applyUpdates_10, q_G_applyUpdates_13, q_G_applyUpdates_13n, q_G_applyUpdates_14, q_G_applyUpdates_14n, q_G_applyUpdates_15, q_G_applyUpdates_18, q_G_applyUpdates_19, q_G_applyUpdates_22, q_G_applyUpdates_25, q_G_applyUpdates_25n, q_G_applyUpdates_27, q_G_applyUpdates_27n, q_G_applyUpdates_29n, q_G_applyUpdates_29, q_G_applyUpdates_32, q_G_applyUpdates_32n, q_G_applyUpdates_33, q_G_applyUpdates_36, q_G_applyUpdates_37, q_G_applyUpdates_40, q_G_applyUpdates_41, q_G_applyUpdates_44, q_G_applyUpdates_44n, q_G_applyUpdates_46, q_G_applyUpdates_49, q_G_applyUpdates_52, q_G_applyUpdates_54, q_G_applyUpdates_54n, q_G_applyUpdates_55, q_G_applyUpdates_58, q_G_applyUpdates_60, q_G_applyUpdates_60n, q_G_applyUpdates_62, q_G_applyUpdates_65, q_G_applyUpdates_68, q_G_applyUpdates_68n, q_G_applyUpdates_69, q_G_applyUpdates_72, q_G_applyUpdates_74, q_G_applyUpdates_77, q_G_applyUpdates_80, q_G_applyUpdates_83, Option.bind_some, Option.toList_some, Option.toList_none, List.cons_append, List.nil_append, zq_rf_some, zq_rf_none, ↓reduceIte, zq_lt, zq_le, zq_eq, nI_add, zq_up_s, zq_up_o, zq_up_k, zq_b_eq0, Nat.reduceEqDiff, Nat.reduceLeDiff, Nat.reduceLT, Nat.reduceAdd, not_true_eq_false, not_false_eq_true, Nat.not_lt_zero, zq_on_lt, zq_os, false_or, or_false, or_self, Bool.false_eq_true, r3, zx_n, z, zc_au]
  | c + 1, i, X, v4, v5, hX, hi => by
    obtain ⟨b1, b2, b3, b4, b5, b6, b7, b8⟩ := id hX
    obtain ⟨a1, a2, a3, a4, a5, a6, a7, a8⟩ := id h
    have pi := b5 i (by omega)
    have le := b8 _ pi
    have hX' : zc_pr (zc_u1 X k q i) := hX.same (zc_u1_bd b1) (fun a j _ _ => zc_u1_o (by omega) (by omega)) (fun p hp => by rw [zc_u1_o (by omega) (by omega)]; exact b8 p hp)
    obtain ⟨u0, r0, r1, r2, r3, r4, r5, r6, r7, v1, v2, vp, w1, w2, li, w16, w18, w20, w22, w24, ep⟩ := id hG
    have b := b1.lt 16 1
    have c1 := w16.1
    have z : ¬ X 16 1 ≤ i := by omega
    have at1 := c_at (d := d + 3) (nx := nx) (kx := kx) (I0 := I0) w16 b1 (i := i) (by omega) b2
    have pe := c_person (d := d + 3) (nx := nx) (kx := kx) (X := X) (I0 := I0) hG pi
    have t := (vp _ pi).2
    have a51 := a5.1
    by_cases c2 : X 17 i = q
    · have e1 : zc_u1 X k q i = X := if_pos c2
      have ih := c_applyUpdates_go (d := d) (nx := nx) (kx := kx) (I0 := I0) hG h hq c (i + 1) X (some (.ref (g + (2 + X 17 i)))) v5 hX (by omega)
      rw [c2] at at1 pe t ih
      rw [q_G_applyUpdates_2]
      simp (disch := first | assumption | omega | exact Nat.le_of_ble_eq_true rfl) only [q_G_applyUpdates_0, q_G_applyUpdates_1, q_G_applyUpdates_3, q_G_applyUpdates_3n, q_G_applyUpdates_4, q_G_applyUpdates_7, q_G_applyUpdates_10, q_G_applyUpdates_13, q_G_applyUpdates_13n, q_G_applyUpdates_14, q_G_applyUpdates_14n, q_G_applyUpdates_15, q_G_applyUpdates_18, q_G_applyUpdates_19, q_G_applyUpdates_22, q_G_applyUpdates_25, q_G_applyUpdates_25n, q_G_applyUpdates_27, q_G_applyUpdates_27n, q_G_applyUpdates_29n, q_G_applyUpdates_29, q_G_applyUpdates_32, q_G_applyUpdates_32n, q_G_applyUpdates_33, q_G_applyUpdates_36, q_G_applyUpdates_37, q_G_applyUpdates_40, q_G_applyUpdates_41, q_G_applyUpdates_44, q_G_applyUpdates_44n, q_G_applyUpdates_46, q_G_applyUpdates_49, q_G_applyUpdates_52, q_G_applyUpdates_54, q_G_applyUpdates_54n, q_G_applyUpdates_55, q_G_applyUpdates_58, q_G_applyUpdates_60, q_G_applyUpdates_60n, q_G_applyUpdates_62, q_G_applyUpdates_65, q_G_applyUpdates_68, q_G_applyUpdates_68n, q_G_applyUpdates_69, q_G_applyUpdates_72, q_G_applyUpdates_74, q_G_applyUpdates_77, q_G_applyUpdates_80, q_G_applyUpdates_83, Option.bind_some, Option.toList_some, Option.toList_none, List.cons_append, List.nil_append, zq_rf_some, zq_rf_none, ↓reduceIte, zq_lt, zq_le, zq_eq, nI_add, zq_up_s, zq_up_o, zq_up_k, zq_b_eq0, Nat.reduceEqDiff, Nat.reduceLeDiff, Nat.reduceLT, Nat.reduceAdd, not_true_eq_false, not_false_eq_true, Nat.not_lt_zero, zq_on_lt, zq_os, false_or, or_false, or_self, Bool.false_eq_true, r3, zx_n, z, at1, pe, zc_au, e1, ih]
    · have e1 : zc_u1 X k q i = zc_bA (k + 1) 3 ((8 + X (2 + X 17 i) 2) / 2) (zc_gk X (k + 1) (8 + X (2 + X 17 i) 2) (X (2 + X 17 i) 4)) := if_neg c2
      have ih := c_applyUpdates_go (d := d) (nx := nx) (kx := kx) (I0 := I0) hG h hq c (i + 1) (zc_u1 X k q i) (some (.ref (g + (2 + X 17 i)))) (some (.int (nI (8 + X (2 + X 17 i) 2)))) hX' (by rw [zc_u1_o (by omega) (by omega)]; omega)
      rw [e1] at ih
      have nl := m_nodeOfLeaf (d := d + 3) (nx := nx) (kx := kx) (sh := sh) (I := zx g X I0) (P := P) (X (2 + X 17 i) 2)
      have gk := c_giveKey (d := d + 2) (nx := nx) (kx := kx) (X := X) (I0 := I0) a5 (n := 8 + X (2 + X 17 i) 2) (v := X (2 + X 17 i) 4) (by omega) (by omega)
      have ba := c_blankAbove (d := d) (nx := nx) (kx := kx) (X := zc_gk X (k + 1) (8 + X (2 + X 17 i) 2) (X (2 + X 17 i) 4)) (I0 := I0) a5 (n := 8 + X (2 + X 17 i) 2) (by omega)
      rw [q_G_applyUpdates_2]
      simp (disch := first | assumption | omega | exact Nat.le_of_ble_eq_true rfl) only [q_G_applyUpdates_0, q_G_applyUpdates_1, q_G_applyUpdates_3, q_G_applyUpdates_3n, q_G_applyUpdates_4, q_G_applyUpdates_7, q_G_applyUpdates_10, q_G_applyUpdates_13, q_G_applyUpdates_13n, q_G_applyUpdates_14, q_G_applyUpdates_14n, q_G_applyUpdates_15, q_G_applyUpdates_18, q_G_applyUpdates_19, q_G_applyUpdates_22, q_G_applyUpdates_25, q_G_applyUpdates_25n, q_G_applyUpdates_27, q_G_applyUpdates_27n, q_G_applyUpdates_29n, q_G_applyUpdates_29, q_G_applyUpdates_32, q_G_applyUpdates_32n, q_G_applyUpdates_33, q_G_applyUpdates_36, q_G_applyUpdates_37, q_G_applyUpdates_40, q_G_applyUpdates_41, q_G_applyUpdates_44, q_G_applyUpdates_44n, q_G_applyUpdates_46, q_G_applyUpdates_49, q_G_applyUpdates_52, q_G_applyUpdates_54, q_G_applyUpdates_54n, q_G_applyUpdates_55, q_G_applyUpdates_58, q_G_applyUpdates_60, q_G_applyUpdates_60n, q_G_applyUpdates_62, q_G_applyUpdates_65, q_G_applyUpdates_68, q_G_applyUpdates_68n, q_G_applyUpdates_69, q_G_applyUpdates_72, q_G_applyUpdates_74, q_G_applyUpdates_77, q_G_applyUpdates_80, q_G_applyUpdates_83, Option.bind_some, Option.toList_some, Option.toList_none, List.cons_append, List.nil_append, zq_rf_some, zq_rf_none, ↓reduceIte, zq_lt, zq_le, zq_eq, nI_add, zq_up_s, zq_up_o, zq_up_k, zq_b_eq0, Nat.reduceEqDiff, Nat.reduceLeDiff, Nat.reduceLT, Nat.reduceAdd, not_true_eq_false, not_false_eq_true, Nat.not_lt_zero, zq_on_lt, zq_os, false_or, or_false, or_self, Bool.false_eq_true, r3, zx_n, z, at1, pe, c2, nl, a2, gk, ba, zc_au, e1, ih]
theorem c_applyUpdates {d nx kx g : Nat} {sh : zq_S} {P : zq_P} {X : Nat → Nat → Nat} {I0 : zq_I} {ne k q : Nat} (hG : zc_lay g ne sh P) (h : zc_ep g k sh P) (hq : q < 10) (hX : zc_pr X) : zq_C (d + 4) 31 [.ref g, .ref (g + k), .int (nI q)] sh (zx g X I0) P nx kx = some (none, sh, zx g (zc_au k q (X 16 1) 0 X) I0, P, nx, kx) := by
  have go := c_applyUpdates_go (d := d) (nx := nx) (kx := kx) (I0 := I0) hG h hq (X 16 1) 0 X none none hX (Nat.zero_add _)
  simp (disch := first | assumption | omega | exact Nat.le_of_ble_eq_true rfl) only [q_G_applyUpdates, q_G_applyUpdates_0, q_G_applyUpdates_1, q_G_applyUpdates_3, q_G_applyUpdates_3n, q_G_applyUpdates_4, q_G_applyUpdates_7, q_G_applyUpdates_10, q_G_applyUpdates_13, q_G_applyUpdates_13n, q_G_applyUpdates_14, q_G_applyUpdates_14n, q_G_applyUpdates_15, q_G_applyUpdates_18, q_G_applyUpdates_19, q_G_applyUpdates_22, q_G_applyUpdates_25, q_G_applyUpdates_25n, q_G_applyUpdates_27, q_G_applyUpdates_27n, q_G_applyUpdates_29n, q_G_applyUpdates_29, q_G_applyUpdates_32, q_G_applyUpdates_32n, q_G_applyUpdates_33, q_G_applyUpdates_36, q_G_applyUpdates_37, q_G_applyUpdates_40, q_G_applyUpdates_41, q_G_applyUpdates_44, q_G_applyUpdates_44n, q_G_applyUpdates_46, q_G_applyUpdates_49, q_G_applyUpdates_52, q_G_applyUpdates_54, q_G_applyUpdates_54n, q_G_applyUpdates_55, q_G_applyUpdates_58, q_G_applyUpdates_60, q_G_applyUpdates_60n, q_G_applyUpdates_62, q_G_applyUpdates_65, q_G_applyUpdates_68, q_G_applyUpdates_68n, q_G_applyUpdates_69, q_G_applyUpdates_72, q_G_applyUpdates_74, q_G_applyUpdates_77, q_G_applyUpdates_80, q_G_applyUpdates_83, Option.bind_some, Option.toList_some, Option.toList_none, List.cons_append, List.nil_append, zq_rf_some, zq_rf_none, ↓reduceIte, zq_lt, zq_le, zq_eq, nI_add, zq_up_s, zq_up_o, zq_up_k, zq_b_eq0, Nat.reduceEqDiff, Nat.reduceLeDiff, Nat.reduceLT, Nat.reduceAdd, not_true_eq_false, not_false_eq_true, Nat.not_lt_zero, zq_on_lt, zq_os, false_or, or_false, or_self, Bool.false_eq_true, go]
def zc_r1 (X : (Nat → Nat → Nat)) (k i : Nat) : (Nat → Nat → Nat) := zc_bA (k + 1) 3 ((8 + X 19 i) / 2) (zc_gk (zq_up X k 4 (X k 4 ||| 2 ^ X 19 i)) (k + 1) (8 + X 19 i) 0)
theorem zc_r1_o {X : (Nat → Nat → Nat)} {k i a j : Nat} (h0 : a ≠ k) (h1 : a ≠ k + 2) (h2 : a ≠ k + 3) : zc_r1 X k i a j = X a j := by
  unfold zc_r1
  rw [zc_bA_o (by omega) (by omega), zc_gk_o (by omega) (by omega), zq_up_o h0]
theorem zc_r1_bd {X : (Nat → Nat → Nat)} (h : zr_bd X) {k i : Nat} (hl : X 19 i < 8) : zr_bd (zc_r1 X k i) := zc_bA_bd _ _ _ (zc_gk_bd (h.up (h.or (by omega))) (by decide))
def zc_ar (k : Nat) : Nat → Nat → (Nat → Nat → Nat) → (Nat → Nat → Nat)
  | 0, _, X => X
  | c + 1, i, X => zc_ar k c (i + 1) (zc_r1 X k i)
theorem c_applyRemoves_go {d nx kx g : Nat} {sh : zq_S} {P : zq_P} {I0 : zq_I} {ne k : Nat} (hG : zc_lay g ne sh P) (h : zc_ep g k sh P) : ∀ (c i : Nat) (X : (Nat → Nat → Nat)) (v3 : Option Value), zc_pr X → i + c = X 18 1 → zq_F (d + 4) 32 2 [some (.ref g), some (.ref (g + k)), some (.int (nI i)), v3] [] sh (zx g X I0) P nx kx = some (none, sh, zx g (zc_ar k c i X) I0, P, nx, kx)
  | 0, i, X, v3, hX, hi => by
    obtain ⟨u0, r0, r1, r2, r3, r4, r5, r6, r7, v1, v2, vp, w1, w2, li, w16, w18, w20, w22, w24, ep⟩ := id hG
    have b := hX.1.lt 18 1
    have a1 := w18.1
    have z : X 18 1 ≤ i := by omega
    rw [q_G_applyRemoves_2]
    simp (disch := first | assumption | omega | exact Nat.le_of_ble_eq_true rfl) only [q_G_applyRemoves_0, q_G_applyRemoves_1, q_G_applyRemoves_3, q_G_applyRemoves_3n, q_G_applyRemoves_4, q_G_applyRemoves_7, q_G_applyRemoves_10, q_G_applyRemoves_13, q_G_applyRemoves_13n, q_G_applyRemoves_14, q_G_applyRemoves_17, q_G_applyRemoves_18, q_G_applyRemoves_21, q_G_applyRemoves_22, q_G_applyRemoves_22n, q_G_applyRemoves_23, q_G_applyRemoves_24, q_G_applyRemoves_27, q_G_applyRemoves_27n, q_G_applyRemoves_28, q_G_applyRemoves_31, q_G_applyRemoves_32, q_G_applyRemoves_35, q_G_applyRemoves_38, q_G_applyRemoves_38n, q_G_applyRemoves_39, q_G_applyRemoves_42, q_G_applyRemoves_43, q_G_applyRemoves_46, q_G_applyRemoves_49, q_G_applyRemoves_52, q_G_applyRemoves_55, Option.bind_some, Option.toList_some, Option.toList_none, List.cons_append, List.nil_append, zq_rf_some, zq_rf_none, ↓reduceIte, zq_lt, zq_le, zq_eq, nI_add, zq_up_s, zq_up_o, zq_up_k, zq_b_eq0, Nat.reduceEqDiff, Nat.reduceLeDiff, Nat.reduceLT, Nat.reduceAdd, not_true_eq_false, not_false_eq_true, Nat.not_lt_zero, zq_on_lt, zq_os, false_or, or_false, or_self, Bool.false_eq_true, r4, zx_n, z, zc_ar]
  | c + 1, i, X, v3, hX, hi => by
    obtain ⟨b1, b2, b3, b4, b5, b6, b7, b8⟩ := id hX
    obtain ⟨a1, a2, a3, a4, a5, a6, a7, a8⟩ := id h
    have le := b6 i (by omega)
    have hX' : zc_pr (zc_r1 X k i) := hX.same (zc_r1_bd b1 le) (fun a j _ _ => zc_r1_o (by omega) (by omega) (by omega)) (fun p hp => by rw [zc_r1_o (by omega) (by omega) (by omega)]; exact b8 p hp)
    have ih := c_applyRemoves_go (d := d) (nx := nx) (kx := kx) (I0 := I0) hG h c (i + 1) (zc_r1 X k i) (some (.int (nI (X 19 i)))) hX' (by rw [zc_r1_o (by omega) (by omega) (by omega)]; omega)
    obtain ⟨u0, r0, r1, r2, r3, r4, r5, r6, r7, v1, v2, vp, w1, w2, li, w16, w18, w20, w22, w24, ep⟩ := id hG
    have b := b1.lt 18 1
    have c1 := w18.1
    have z : ¬ X 18 1 ≤ i := by omega
    have a51 := a5.1
    have at1 := c_at (d := d + 3) (nx := nx) (kx := kx) (I0 := I0) w18 b1 (i := i) (by omega) b3
    have nr := c_noteRemoved (d := d + 3) (nx := nx) (kx := kx) (X := X) (I0 := I0) h le
    have nl := m_nodeOfLeaf (d := d + 3) (nx := nx) (kx := kx) (sh := sh) (I := zx g (zq_up X k 4 (X k 4 ||| 2 ^ X 19 i)) I0) (P := P) (X 19 i)
    have bl := c_blank (d := d + 1) (nx := nx) (kx := kx) (X := zq_up X k 4 (X k 4 ||| 2 ^ X 19 i)) (I0 := I0) a5 (n := 8 + X 19 i) (by omega) (by omega)
    have nl2 := m_nodeOfLeaf (d := d + 3) (nx := nx) (kx := kx) (sh := sh) (I := zx g (zc_gk (zq_up X k 4 (X k 4 ||| 2 ^ X 19 i)) (k + 1) (8 + X 19 i) 0) I0) (P := P) (X 19 i)
    have ba := c_blankAbove (d := d) (nx := nx) (kx := kx) (X := zc_gk (zq_up X k 4 (X k 4 ||| 2 ^ X 19 i)) (k + 1) (8 + X 19 i) 0) (I0 := I0) a5 (n := 8 + X 19 i) (by omega)
    rw [zc_r1] at ih
    rw [q_G_applyRemoves_2]
    simp (disch := first | assumption | omega | exact Nat.le_of_ble_eq_true rfl) only [q_G_applyRemoves_0, q_G_applyRemoves_1, q_G_applyRemoves_3, q_G_applyRemoves_3n, q_G_applyRemoves_4, q_G_applyRemoves_7, q_G_applyRemoves_10, q_G_applyRemoves_13, q_G_applyRemoves_13n, q_G_applyRemoves_14, q_G_applyRemoves_17, q_G_applyRemoves_18, q_G_applyRemoves_21, q_G_applyRemoves_22, q_G_applyRemoves_22n, q_G_applyRemoves_23, q_G_applyRemoves_24, q_G_applyRemoves_27, q_G_applyRemoves_27n, q_G_applyRemoves_28, q_G_applyRemoves_31, q_G_applyRemoves_32, q_G_applyRemoves_35, q_G_applyRemoves_38, q_G_applyRemoves_38n, q_G_applyRemoves_39, q_G_applyRemoves_42, q_G_applyRemoves_43, q_G_applyRemoves_46, q_G_applyRemoves_49, q_G_applyRemoves_52, q_G_applyRemoves_55, Option.bind_some, Option.toList_some, Option.toList_none, List.cons_append, List.nil_append, zq_rf_some, zq_rf_none, ↓reduceIte, zq_lt, zq_le, zq_eq, nI_add, zq_up_s, zq_up_o, zq_up_k, zq_b_eq0, Nat.reduceEqDiff, Nat.reduceLeDiff, Nat.reduceLT, Nat.reduceAdd, not_true_eq_false, not_false_eq_true, Nat.not_lt_zero, zq_on_lt, zq_os, false_or, or_false, or_self, Bool.false_eq_true, r4, zx_n, z, at1, nr, a2, nl, bl, nl2, ba, zc_ar, zc_r1, ih]
theorem c_applyRemoves {d nx kx g : Nat} {sh : zq_S} {P : zq_P} {X : Nat → Nat → Nat} {I0 : zq_I} {ne k : Nat} (hG : zc_lay g ne sh P) (h : zc_ep g k sh P) (hX : zc_pr X) : zq_C (d + 4) 32 [.ref g, .ref (g + k)] sh (zx g X I0) P nx kx = some (none, sh, zx g (zc_ar k (X 18 1) 0 X) I0, P, nx, kx) := by
  have go := c_applyRemoves_go (d := d) (nx := nx) (kx := kx) (I0 := I0) hG h (X 18 1) 0 X none hX (Nat.zero_add _)
  simp (disch := first | assumption | omega | exact Nat.le_of_ble_eq_true rfl) only [q_G_applyRemoves, q_G_applyRemoves_0, q_G_applyRemoves_1, q_G_applyRemoves_3, q_G_applyRemoves_3n, q_G_applyRemoves_4, q_G_applyRemoves_7, q_G_applyRemoves_10, q_G_applyRemoves_13, q_G_applyRemoves_13n, q_G_applyRemoves_14, q_G_applyRemoves_17, q_G_applyRemoves_18, q_G_applyRemoves_21, q_G_applyRemoves_22, q_G_applyRemoves_22n, q_G_applyRemoves_23, q_G_applyRemoves_24, q_G_applyRemoves_27, q_G_applyRemoves_27n, q_G_applyRemoves_28, q_G_applyRemoves_31, q_G_applyRemoves_32, q_G_applyRemoves_35, q_G_applyRemoves_38, q_G_applyRemoves_38n, q_G_applyRemoves_39, q_G_applyRemoves_42, q_G_applyRemoves_43, q_G_applyRemoves_46, q_G_applyRemoves_49, q_G_applyRemoves_52, q_G_applyRemoves_55, Option.bind_some, Option.toList_some, Option.toList_none, List.cons_append, List.nil_append, zq_rf_some, zq_rf_none, ↓reduceIte, zq_lt, zq_le, zq_eq, nI_add, zq_up_s, zq_up_o, zq_up_k, zq_b_eq0, Nat.reduceEqDiff, Nat.reduceLeDiff, Nat.reduceLT, Nat.reduceAdd, not_true_eq_false, not_false_eq_true, Nat.not_lt_zero, zq_on_lt, zq_os, false_or, or_false, or_self, Bool.false_eq_true, go]
