/-! the adds, the new path -/
def zc_a1 (X : (Nat → Nat → Nat)) (k p e : Nat) : (Nat → Nat → Nat) := if zc_lb X (k + 1) 8 0 < 8 then zc_jn (zq_up (zc_mk (k + 1) (zc_lb X (k + 1) 8 0) 3 ((8 + zc_lb X (k + 1) 8 0) / 2) (zc_gk X (k + 1) (8 + zc_lb X (k + 1) 8 0) (X (2 + p) 3))) k 5 (X k 5 ||| 2 ^ zc_lb X (k + 1) 8 0)) p (zc_lb X (k + 1) 8 0) e else X
theorem zc_a1_o {X : (Nat → Nat → Nat)} {k p e a j : Nat} (h0 : a ≠ k) (h1 : a ≠ k + 2) (h2 : a ≠ k + 3) (h3 : a ≠ 2 + p) : zc_a1 X k p e a j = X a j := by
  unfold zc_a1
  split
  · rw [zc_jn, zq_up_o h3, zq_up_o h3, zq_up_o h3, zq_up_o h0, zc_mk_o (by omega), zc_gk_o (by omega) (by omega)]
  · rfl
theorem zc_a1_bd {X : (Nat → Nat → Nat)} (h : zr_bd X) {k p e : Nat} (he : e < 65536) : zr_bd (zc_a1 X k p e) := by
  unfold zc_a1
  split
  · rename_i hl
    exact (((((zc_mk_bd hl _ _ _ (zc_gk_bd h (h _ _))).up (h.or (by omega))).up (by decide)).up (by omega)).up he)
  · exact h
theorem zc_a1_seat {X : (Nat → Nat → Nat)} {k p e q : Nat} (hk : 45 ≤ k) (hp : p < 10) (hq : q < 10) (h : ∀ q, q < 10 → X (2 + q) 2 < 8) : zc_a1 X k p e (2 + q) 2 < 8 := by
  by_cases c : q = p
  · subst c
    unfold zc_a1
    split
    · rw [zc_jn, zq_up_k (by decide), zq_up_s]
      assumption
    · exact h q hq
  · rw [zc_a1_o (by omega) (by omega) (by omega) (by omega)]
    exact h q hq
def zc_aa (k e : Nat) : Nat → Nat → (Nat → Nat → Nat) → (Nat → Nat → Nat)
  | 0, _, X => X
  | c + 1, i, X => zc_aa k e c (i + 1) (zc_a1 X k (X 21 i) e)
theorem c_applyAdds_go {d nx kx g : Nat} {sh : zq_S} {P : zq_P} {I0 : zq_I} {ne k e : Nat} (hG : zc_lay g ne sh P) (h : zc_ep g k sh P) (he : e < 100) : ∀ (c i : Nat) (X : (Nat → Nat → Nat)) (v3 v4 : Option Value), zc_pr X → X 0 8 = e + 1 → i + c = X 20 1 → zq_F (d + 4) 33 2 [some (.ref g), some (.ref (g + k)), some (.int (nI i)), v3, v4] [] sh (zx g X I0) P nx kx = some (none, sh, zx g (zc_aa k e c i X) I0, P, nx, kx)
  | 0, i, X, v3, v4, hX, h8, hi => by
    obtain ⟨u0, r0, r1, r2, r3, r4, r5, r6, r7, v1, v2, vp, w1, w2, li, w16, w18, w20, w22, w24, ep⟩ := id hG
    have b := hX.1.lt 20 1
    have a1 := w20.1
    have z : X 20 1 ≤ i := by omega
    rw [q_G_applyAdds_2]
    simp (disch := first | assumption | omega | exact Nat.le_of_ble_eq_true rfl) only [q_G_applyAdds_0, q_G_applyAdds_1, q_G_applyAdds_3, q_G_applyAdds_3n, q_G_applyAdds_4, q_G_applyAdds_7, q_G_applyAdds_10, q_G_applyAdds_13, q_G_applyAdds_13n, q_G_applyAdds_14, q_G_applyAdds_14n, q_G_applyAdds_15, q_G_applyAdds_18, q_G_applyAdds_19, q_G_applyAdds_22, q_G_applyAdds_25, q_G_applyAdds_25n, q_G_applyAdds_26, q_G_applyAdds_26n, q_G_applyAdds_27, q_G_applyAdds_30, q_G_applyAdds_33, q_G_applyAdds_35, q_G_applyAdds_35n, q_G_applyAdds_36n, q_G_applyAdds_36, q_G_applyAdds_39, q_G_applyAdds_41, q_G_applyAdds_43, q_G_applyAdds_46, q_G_applyAdds_46n, q_G_applyAdds_47, q_G_applyAdds_50, q_G_applyAdds_52, q_G_applyAdds_55, q_G_applyAdds_55n, q_G_applyAdds_56, q_G_applyAdds_59, q_G_applyAdds_62, q_G_applyAdds_62n, q_G_applyAdds_63, q_G_applyAdds_66, q_G_applyAdds_68, q_G_applyAdds_71, q_G_applyAdds_71n, q_G_applyAdds_72, q_G_applyAdds_74, q_G_applyAdds_77, q_G_applyAdds_77n, q_G_applyAdds_78, q_G_applyAdds_80, q_G_applyAdds_80n, q_G_applyAdds_81, q_G_applyAdds_84, q_G_applyAdds_87, q_G_applyAdds_90, q_G_applyAdds_93, Option.bind_some, Option.toList_some, Option.toList_none, List.cons_append, List.nil_append, zq_rf_some, zq_rf_none, ↓reduceIte, zq_lt, zq_le, zq_eq, nI_add, zq_up_s, zq_up_o, zq_up_k, zq_b_eq0, Nat.reduceEqDiff, Nat.reduceLeDiff, Nat.reduceLT, Nat.reduceAdd, not_true_eq_false, not_false_eq_true, Nat.not_lt_zero, zq_on_lt, zq_os, false_or, or_false, or_self, Bool.false_eq_true, r5, zx_n, z, zc_aa]
  | c + 1, i, X, v3, v4, hX, h8, hi => by
    obtain ⟨b1, b2, b3, b4, b5, b6, b7, b8⟩ := id hX
    obtain ⟨a1, a2, a3, a4, a5, a6, a7, a8⟩ := id h
    have pi := b7 i (by omega)
    generalize hp : X 21 i = p at pi
    have hX' : zc_pr (zc_a1 X k p e) := hX.same (zc_a1_bd b1 (by omega)) (fun a j _ _ => zc_a1_o (by omega) (by omega) (by omega) (by omega)) (fun q hq => zc_a1_seat a8 pi hq b8)
    have ih := c_applyAdds_go (d := d) (nx := nx) (kx := kx) (I0 := I0) hG h he c (i + 1) (zc_a1 X k p e) (some (.ref (g + (2 + p)))) (some (.int (nI (zc_lb X (k + 1) 8 0)))) hX' (by rw [zc_a1_o (by omega) (by omega) (by omega) (by omega)]; exact h8) (by rw [zc_a1_o (by omega) (by omega) (by omega) (by omega)]; omega)
    obtain ⟨u0, r0, r1, r2, r3, r4, r5, r6, r7, v1, v2, vp, w1, w2, li, w16, w18, w20, w22, w24, ep⟩ := id hG
    have b := b1.lt 20 1
    have c1 := w20.1
    have z : ¬ X 20 1 ≤ i := by omega
    have at1 := c_at (d := d + 3) (nx := nx) (kx := kx) (I0 := I0) w20 b1 (i := i) (by omega) b4
    rw [hp] at at1
    have pe := c_person (d := d + 3) (nx := nx) (kx := kx) (X := X) (I0 := I0) hG pi
    have t := (vp _ pi).2
    have a51 := a5.1
    have le := c_least (d := d) (nx := nx) (kx := kx) (X := X) (I0 := I0) a5 b1
    by_cases c2 : zc_lb X (k + 1) 8 0 < 8
    · have c3 : ¬ 8 ≤ zc_lb X (k + 1) 8 0 := by omega
      have e1 : zc_a1 X k p e = zc_jn (zq_up (zc_mk (k + 1) (zc_lb X (k + 1) 8 0) 3 ((8 + zc_lb X (k + 1) 8 0) / 2) (zc_gk X (k + 1) (8 + zc_lb X (k + 1) 8 0) (X (2 + p) 3))) k 5 (X k 5 ||| 2 ^ zc_lb X (k + 1) 8 0)) p (zc_lb X (k + 1) 8 0) e := if_pos c2
      have nl := m_nodeOfLeaf (d := d + 3) (nx := nx) (kx := kx) (sh := sh) (I := zx g X I0) (P := P) (zc_lb X (k + 1) 8 0)
      have gk := c_giveKey (d := d + 2) (nx := nx) (kx := kx) (X := X) (I0 := I0) a5 (n := 8 + zc_lb X (k + 1) 8 0) (v := X (2 + p) 3) (by omega) (by omega)
      have g1 : zr_bd (zc_gk X (k + 1) (8 + zc_lb X (k + 1) 8 0) (X (2 + p) 3)) := zc_gk_bd b1 (b1 _ _)
      have mk := c_mark (d := d) (nx := nx) (kx := kx) (I0 := I0) a5 g1 c2
      have na := c_noteAdded (d := d + 3) (nx := nx) (kx := kx) (X := zc_mk (k + 1) (zc_lb X (k + 1) 8 0) 3 ((8 + zc_lb X (k + 1) 8 0) / 2) (zc_gk X (k + 1) (8 + zc_lb X (k + 1) 8 0) (X (2 + p) 3))) (I0 := I0) h c2
      have o5 : zc_mk (k + 1) (zc_lb X (k + 1) 8 0) 3 ((8 + zc_lb X (k + 1) 8 0) / 2) (zc_gk X (k + 1) (8 + zc_lb X (k + 1) 8 0) (X (2 + p) 3)) k 5 = X k 5 := by rw [zc_mk_o (by omega), zc_gk_o (by omega) (by omega)]
      rw [o5] at na
      have o8 : zc_mk (k + 1) (zc_lb X (k + 1) 8 0) 3 ((8 + zc_lb X (k + 1) 8 0) / 2) (zc_gk X (k + 1) (8 + zc_lb X (k + 1) 8 0) (X (2 + p) 3)) 0 8 = e + 1 := by rw [zc_mk_o (by omega), zc_gk_o (by omega) (by omega), h8]
      have jn := c_join (P := P) (d := d + 3) (nx := nx) (kx := kx) (I0 := I0) (l := zc_lb X (k + 1) 8 0) (e := e) (X := zq_up (zc_mk (k + 1) (zc_lb X (k + 1) 8 0) 3 ((8 + zc_lb X (k + 1) 8 0) / 2) (zc_gk X (k + 1) (8 + zc_lb X (k + 1) 8 0) (X (2 + p) 3))) k 5 (X k 5 ||| 2 ^ zc_lb X (k + 1) 8 0)) t pi
      rw [e1] at ih
      rw [q_G_applyAdds_2]
      simp (disch := first | assumption | omega | exact Nat.le_of_ble_eq_true rfl) only [q_G_applyAdds_0, q_G_applyAdds_1, q_G_applyAdds_3, q_G_applyAdds_3n, q_G_applyAdds_4, q_G_applyAdds_7, q_G_applyAdds_10, q_G_applyAdds_13, q_G_applyAdds_13n, q_G_applyAdds_14, q_G_applyAdds_14n, q_G_applyAdds_15, q_G_applyAdds_18, q_G_applyAdds_19, q_G_applyAdds_22, q_G_applyAdds_25, q_G_applyAdds_25n, q_G_applyAdds_26, q_G_applyAdds_26n, q_G_applyAdds_27, q_G_applyAdds_30, q_G_applyAdds_33, q_G_applyAdds_35, q_G_applyAdds_35n, q_G_applyAdds_36n, q_G_applyAdds_36, q_G_applyAdds_39, q_G_applyAdds_41, q_G_applyAdds_43, q_G_applyAdds_46, q_G_applyAdds_46n, q_G_applyAdds_47, q_G_applyAdds_50, q_G_applyAdds_52, q_G_applyAdds_55, q_G_applyAdds_55n, q_G_applyAdds_56, q_G_applyAdds_59, q_G_applyAdds_62, q_G_applyAdds_62n, q_G_applyAdds_63, q_G_applyAdds_66, q_G_applyAdds_68, q_G_applyAdds_71, q_G_applyAdds_71n, q_G_applyAdds_72, q_G_applyAdds_74, q_G_applyAdds_77, q_G_applyAdds_77n, q_G_applyAdds_78, q_G_applyAdds_80, q_G_applyAdds_80n, q_G_applyAdds_81, q_G_applyAdds_84, q_G_applyAdds_87, q_G_applyAdds_90, q_G_applyAdds_93, Option.bind_some, Option.toList_some, Option.toList_none, List.cons_append, List.nil_append, zq_rf_some, zq_rf_none, ↓reduceIte, zq_lt, zq_le, zq_eq, nI_add, zq_up_s, zq_up_o, zq_up_k, zq_b_eq0, Nat.reduceEqDiff, Nat.reduceLeDiff, Nat.reduceLT, Nat.reduceAdd, not_true_eq_false, not_false_eq_true, Nat.not_lt_zero, zq_on_lt, zq_os, false_or, or_false, or_self, Bool.false_eq_true, r5, zx_n, z, at1, pe, a2, le, c3, nl, gk, mk, na, zx_8, o8, zq_pred, jn, zc_aa, hp, e1, ih]
    · have c3 : 8 ≤ zc_lb X (k + 1) 8 0 := by omega
      have b9 := zc_lb_le X (k + 1) 8 0
      have e1 : zc_a1 X k p e = X := if_neg c2
      rw [e1] at ih
      rw [q_G_applyAdds_2]
      simp (disch := first | assumption | omega | exact Nat.le_of_ble_eq_true rfl) only [q_G_applyAdds_0, q_G_applyAdds_1, q_G_applyAdds_3, q_G_applyAdds_3n, q_G_applyAdds_4, q_G_applyAdds_7, q_G_applyAdds_10, q_G_applyAdds_13, q_G_applyAdds_13n, q_G_applyAdds_14, q_G_applyAdds_14n, q_G_applyAdds_15, q_G_applyAdds_18, q_G_applyAdds_19, q_G_applyAdds_22, q_G_applyAdds_25, q_G_applyAdds_25n, q_G_applyAdds_26, q_G_applyAdds_26n, q_G_applyAdds_27, q_G_applyAdds_30, q_G_applyAdds_33, q_G_applyAdds_35, q_G_applyAdds_35n, q_G_applyAdds_36n, q_G_applyAdds_36, q_G_applyAdds_39, q_G_applyAdds_41, q_G_applyAdds_43, q_G_applyAdds_46, q_G_applyAdds_46n, q_G_applyAdds_47, q_G_applyAdds_50, q_G_applyAdds_52, q_G_applyAdds_55, q_G_applyAdds_55n, q_G_applyAdds_56, q_G_applyAdds_59, q_G_applyAdds_62, q_G_applyAdds_62n, q_G_applyAdds_63, q_G_applyAdds_66, q_G_applyAdds_68, q_G_applyAdds_71, q_G_applyAdds_71n, q_G_applyAdds_72, q_G_applyAdds_74, q_G_applyAdds_77, q_G_applyAdds_77n, q_G_applyAdds_78, q_G_applyAdds_80, q_G_applyAdds_80n, q_G_applyAdds_81, q_G_applyAdds_84, q_G_applyAdds_87, q_G_applyAdds_90, q_G_applyAdds_93, Option.bind_some, Option.toList_some, Option.toList_none, List.cons_append, List.nil_append, zq_rf_some, zq_rf_none, ↓reduceIte, zq_lt, zq_le, zq_eq, nI_add, zq_up_s, zq_up_o, zq_up_k, zq_b_eq0, Nat.reduceEqDiff, Nat.reduceLeDiff, Nat.reduceLT, Nat.reduceAdd, not_true_eq_false, not_false_eq_true, Nat.not_lt_zero, zq_on_lt, zq_os, false_or, or_false, or_self, Bool.false_eq_true, r5, zx_n, z, at1, pe, a2, le, c3, zc_aa, hp, e1, ih]
theorem c_applyAdds {d nx kx g : Nat} {sh : zq_S} {P : zq_P} {X : Nat → Nat → Nat} {I0 : zq_I} {ne k e : Nat} (hG : zc_lay g ne sh P) (h : zc_ep g k sh P) (he : e < 100) (hX : zc_pr X) (h8 : X 0 8 = e + 1) : zq_C (d + 4) 33 [.ref g, .ref (g + k)] sh (zx g X I0) P nx kx = some (none, sh, zx g (zc_aa k e (X 20 1) 0 X) I0, P, nx, kx) := by
  have go := c_applyAdds_go (d := d) (nx := nx) (kx := kx) (I0 := I0) hG h he (X 20 1) 0 X none none hX h8 (Nat.zero_add _)
  simp (disch := first | assumption | omega | exact Nat.le_of_ble_eq_true rfl) only [q_G_applyAdds, q_G_applyAdds_0, q_G_applyAdds_1, q_G_applyAdds_3, q_G_applyAdds_3n, q_G_applyAdds_4, q_G_applyAdds_7, q_G_applyAdds_10, q_G_applyAdds_13, q_G_applyAdds_13n, q_G_applyAdds_14, q_G_applyAdds_14n, q_G_applyAdds_15, q_G_applyAdds_18, q_G_applyAdds_19, q_G_applyAdds_22, q_G_applyAdds_25, q_G_applyAdds_25n, q_G_applyAdds_26, q_G_applyAdds_26n, q_G_applyAdds_27, q_G_applyAdds_30, q_G_applyAdds_33, q_G_applyAdds_35, q_G_applyAdds_35n, q_G_applyAdds_36n, q_G_applyAdds_36, q_G_applyAdds_39, q_G_applyAdds_41, q_G_applyAdds_43, q_G_applyAdds_46, q_G_applyAdds_46n, q_G_applyAdds_47, q_G_applyAdds_50, q_G_applyAdds_52, q_G_applyAdds_55, q_G_applyAdds_55n, q_G_applyAdds_56, q_G_applyAdds_59, q_G_applyAdds_62, q_G_applyAdds_62n, q_G_applyAdds_63, q_G_applyAdds_66, q_G_applyAdds_68, q_G_applyAdds_71, q_G_applyAdds_71n, q_G_applyAdds_72, q_G_applyAdds_74, q_G_applyAdds_77, q_G_applyAdds_77n, q_G_applyAdds_78, q_G_applyAdds_80, q_G_applyAdds_80n, q_G_applyAdds_81, q_G_applyAdds_84, q_G_applyAdds_87, q_G_applyAdds_90, q_G_applyAdds_93, Option.bind_some, Option.toList_some, Option.toList_none, List.cons_append, List.nil_append, zq_rf_some, zq_rf_none, ↓reduceIte, zq_lt, zq_le, zq_eq, nI_add, zq_up_s, zq_up_o, zq_up_k, zq_b_eq0, Nat.reduceEqDiff, Nat.reduceLeDiff, Nat.reduceLT, Nat.reduceAdd, not_true_eq_false, not_false_eq_true, Nat.not_lt_zero, zq_on_lt, zq_os, false_or, or_false, or_self, Bool.false_eq_true, go]
def zc_rp (k : Nat) : Nat → Nat → (Nat → Nat → Nat) → (Nat → Nat → Nat)
  | 0, _, X => X
  | c + 1, n, X => if n = 0 then X else zc_rp k c (n / 2) (zc_gk (zq_up X 0 9 (X 0 9 + 1)) (k + 1) n (X 0 9 + 1))
theorem c_renewPath_go {d nx kx g : Nat} {sh : zq_S} {P : zq_P} {I0 : zq_I} {ne k : Nat} (hG : zc_lay g ne sh P) (h : zc_ep g k sh P) : ∀ (c n : Nat) (X : (Nat → Nat → Nat)), n < 2 ^ c → n < 16 → zq_F (d + 2) 34 5 [some (.ref g), some (.ref (g + k)), some (.int (nI n))] [] sh (zx g X I0) P nx kx = some (none, sh, zx g (zc_rp k c n X) I0, P, nx, kx)
  | 0, n, X, hn, h2 => by
    have h3 : n = 0 := by omega
    subst h3
    rw [q_G_renewPath_5]
    simp (disch := first | assumption | omega | exact Nat.le_of_ble_eq_true rfl) only [q_G_renewPath_0, q_G_renewPath_0n, q_G_renewPath_1, q_G_renewPath_4, q_G_renewPath_6, q_G_renewPath_7, q_G_renewPath_10, q_G_renewPath_10n, q_G_renewPath_11, q_G_renewPath_14, q_G_renewPath_15, q_G_renewPath_15n, q_G_renewPath_16, q_G_renewPath_19, q_G_renewPath_22, q_G_renewPath_23, q_G_renewPath_26, q_G_renewPath_27, q_G_renewPath_30, Option.bind_some, Option.toList_some, Option.toList_none, List.cons_append, List.nil_append, zq_rf_some, zq_rf_none, ↓reduceIte, zq_lt, zq_le, zq_eq, nI_add, zq_up_s, zq_up_o, zq_up_k, zq_b_eq0, Nat.reduceEqDiff, Nat.reduceLeDiff, Nat.reduceLT, Nat.reduceAdd, not_true_eq_false, not_false_eq_true, Nat.not_lt_zero, zq_on_lt, zq_os, false_or, or_false, or_self, Bool.false_eq_true, zc_rp]
  | c + 1, n, X, hn, h2 => by
    by_cases h3 : n = 0
    · subst h3
      rw [q_G_renewPath_5]
      simp (disch := first | assumption | omega | exact Nat.le_of_ble_eq_true rfl) only [q_G_renewPath_0, q_G_renewPath_0n, q_G_renewPath_1, q_G_renewPath_4, q_G_renewPath_6, q_G_renewPath_7, q_G_renewPath_10, q_G_renewPath_10n, q_G_renewPath_11, q_G_renewPath_14, q_G_renewPath_15, q_G_renewPath_15n, q_G_renewPath_16, q_G_renewPath_19, q_G_renewPath_22, q_G_renewPath_23, q_G_renewPath_26, q_G_renewPath_27, q_G_renewPath_30, Option.bind_some, Option.toList_some, Option.toList_none, List.cons_append, List.nil_append, zq_rf_some, zq_rf_none, ↓reduceIte, zq_lt, zq_le, zq_eq, nI_add, zq_up_s, zq_up_o, zq_up_k, zq_b_eq0, Nat.reduceEqDiff, Nat.reduceLeDiff, Nat.reduceLT, Nat.reduceAdd, not_true_eq_false, not_false_eq_true, Nat.not_lt_zero, zq_on_lt, zq_os, false_or, or_false, or_self, Bool.false_eq_true, zc_rp]
    · obtain ⟨a1, a2, a3, a4, a5, a6, a7, a8⟩ := id h
      have a51 := a5.1
      have u0 := hG.1
      have ih := c_renewPath_go (d := d) (nx := nx) (kx := kx) (I0 := I0) hG h c (n / 2) (zc_gk (zq_up X 0 9 (X 0 9 + 1)) (k + 1) n (X 0 9 + 1)) (by rw [Nat.pow_succ] at hn; omega) (by omega)
      have mk := c_makeKey (d := d + 1) (nx := nx) (kx := kx) (X := X) (I0 := I0) hG
      have gk := c_giveKey (d := d) (nx := nx) (kx := kx) (X := zq_up X 0 9 (X 0 9 + 1)) (I0 := I0) a5 (n := n) (v := X 0 9 + 1) (by omega) (by omega)
      have pa := m_parentOf (d := d + 1) (nx := nx) (kx := kx) (sh := sh) (I := zx g (zc_gk (zq_up X 0 9 (X 0 9 + 1)) (k + 1) n (X 0 9 + 1)) I0) (P := P) n (by omega)
      have h4 : ¬ n < 1 := by omega
      rw [q_G_renewPath_5]
      simp (disch := first | assumption | omega | exact Nat.le_of_ble_eq_true rfl) only [q_G_renewPath_0, q_G_renewPath_0n, q_G_renewPath_1, q_G_renewPath_4, q_G_renewPath_6, q_G_renewPath_7, q_G_renewPath_10, q_G_renewPath_10n, q_G_renewPath_11, q_G_renewPath_14, q_G_renewPath_15, q_G_renewPath_15n, q_G_renewPath_16, q_G_renewPath_19, q_G_renewPath_22, q_G_renewPath_23, q_G_renewPath_26, q_G_renewPath_27, q_G_renewPath_30, Option.bind_some, Option.toList_some, Option.toList_none, List.cons_append, List.nil_append, zq_rf_some, zq_rf_none, ↓reduceIte, zq_lt, zq_le, zq_eq, nI_add, zq_up_s, zq_up_o, zq_up_k, zq_b_eq0, Nat.reduceEqDiff, Nat.reduceLeDiff, Nat.reduceLT, Nat.reduceAdd, not_true_eq_false, not_false_eq_true, Nat.not_lt_zero, zq_on_lt, zq_os, false_or, or_false, or_self, Bool.false_eq_true, zc_rp, h3, h4, a2, mk, gk, pa, ih]
theorem c_renewPath {d nx kx g : Nat} {sh : zq_S} {P : zq_P} {X : Nat → Nat → Nat} {I0 : zq_I} {ne k : Nat} (hG : zc_lay g ne sh P) (h : zc_ep g k sh P) (hn : X k 1 < 16) : zq_C (d + 2) 34 [.ref g, .ref (g + k)] sh (zx g X I0) P nx kx = some (none, sh, zx g (zc_rp k 4 (X k 1) X) I0, P, nx, kx) := by
  have go := c_renewPath_go (d := d) (nx := nx) (kx := kx) (I0 := I0) hG h 4 (X k 1) X (by omega) hn
  obtain ⟨a1, a2, a3, a4, a5, a6, a7, a8⟩ := id h
  simp (disch := first | assumption | omega | exact Nat.le_of_ble_eq_true rfl) only [q_G_renewPath, q_G_renewPath_0, q_G_renewPath_0n, q_G_renewPath_1, q_G_renewPath_4, q_G_renewPath_6, q_G_renewPath_7, q_G_renewPath_10, q_G_renewPath_10n, q_G_renewPath_11, q_G_renewPath_14, q_G_renewPath_15, q_G_renewPath_15n, q_G_renewPath_16, q_G_renewPath_19, q_G_renewPath_22, q_G_renewPath_23, q_G_renewPath_26, q_G_renewPath_27, q_G_renewPath_30, Option.bind_some, Option.toList_some, Option.toList_none, List.cons_append, List.nil_append, zq_rf_some, zq_rf_none, ↓reduceIte, zq_lt, zq_le, zq_eq, nI_add, zq_up_s, zq_up_o, zq_up_k, zq_b_eq0, Nat.reduceEqDiff, Nat.reduceLeDiff, Nat.reduceLT, Nat.reduceAdd, not_true_eq_false, not_false_eq_true, Nat.not_lt_zero, zq_on_lt, zq_os, false_or, or_false, or_self, Bool.false_eq_true, zx_n, go]
/-! resolutions -/
def zc_al (q len : Nat) : List Nat → (Nat → Nat → Nat) → (Nat → Nat → Nat)
  | [], X => X
  | x :: xs, X => zc_al q len xs (zc_ap X q len x)
theorem zc_al_o {q len a j : Nat} (h1 : a ≠ q) (h2 : a ≠ q + 1) : ∀ (xs : List Nat) (X : (Nat → Nat → Nat)), zc_al q len xs X a j = X a j
  | [], _ => rfl
  | x :: xs, X => by rw [zc_al, zc_al_o h1 h2 xs, zc_ap_o h1 h2]
theorem zc_al_bd {q len : Nat} (hl : len < 100) : ∀ (xs : List Nat) (X : (Nat → Nat → Nat)), zr_bd X → (∀ x ∈ xs, x < 65536) → zr_bd (zc_al q len xs X)
  | [], _, h, _ => h
  | x :: xs, X, h, hx => zc_al_bd hl xs _ (zc_ap_bd h (hx x (List.mem_cons_self ..)) hl) (fun y hy => hx y (List.mem_cons_of_mem _ hy))
theorem zc_al_app {q len : Nat} : ∀ (xs ys : List Nat) (X : (Nat → Nat → Nat)), zc_al q len (xs ++ ys) X = zc_al q len ys (zc_al q len xs X)
  | [], _, _ => rfl
  | x :: xs, ys, X => zc_al_app xs ys _
theorem zc_al_n {q len : Nat} : ∀ (xs : List Nat) (X : (Nat → Nat → Nat)), X q 1 + xs.length ≤ len → zc_al q len xs X q 1 = X q 1 + xs.length
  | [], _, _ => rfl
  | x :: xs, X, h => by
    rw [List.length_cons] at h
    have e := zc_ap_n (X := X) (k := q) (len := len) (x := x) (by omega)
    rw [zc_al, zc_al_n xs _ (by rw [e]; omega), e, List.length_cons]
    omega
theorem zc_al_lo {q len j : Nat} : ∀ (xs : List Nat) (X : (Nat → Nat → Nat)), j < X q 1 → X q 1 + xs.length ≤ len → zc_al q len xs X (q + 1) j = X (q + 1) j
  | [], _, _, _ => rfl
  | x :: xs, X, h, hl => by
    rw [List.length_cons] at hl
    have e := zc_ap_n (X := X) (k := q) (len := len) (x := x) (by omega)
    rw [zc_al, zc_al_lo xs _ (by rw [e]; omega) (by rw [e]; omega), zc_ap_lo h]
theorem zc_al_v {q len : Nat} : ∀ (xs : List Nat) (X : (Nat → Nat → Nat)) (j v : Nat), X q 1 + xs.length ≤ len → xs[j]? = some v → zc_al q len xs X (q + 1) (X q 1 + j) = v
  | [], _, j, v, _, h => by simp at h
  | x :: xs, X, 0, v, hl, h => by
    rw [List.length_cons] at hl
    have e := zc_ap_n (X := X) (k := q) (len := len) (x := x) (by omega)
    simp only [List.getElem?_cons_zero, Option.some.injEq] at h
    subst h
    show zc_al q len xs (zc_ap X q len x) (q + 1) (X q 1) = x
    rw [zc_al_lo xs _ (by rw [e]; omega) (by rw [e]; omega), zc_ap_v (by omega)]
  | x :: xs, X, j + 1, v, hl, h => by
    rw [List.length_cons] at hl
    have e := zc_ap_n (X := X) (k := q) (len := len) (x := x) (by omega)
    rw [List.getElem?_cons_succ] at h
    have hl' : zc_ap X q len x q 1 + xs.length ≤ len := by rw [e]; omega
    have ih := zc_al_v xs (zc_ap X q len x) j v hl' h
    rw [e] at ih
    rw [zc_al, show X q 1 + (j + 1) = X q 1 + 1 + j by omega]
    exact ih
theorem c_resolve_in {d nx kx g : Nat} {sh : zq_S} {P : zq_P} {I0 : zq_I} {k n q len : Nat} (ht : zc_tr g k sh P) (hw : zc_rw g q len sh P) (hq : q < 25) (h1 : 1 ≤ n) (h2 : n ≤ 15) : ∀ (c l : Nat) (X : (Nat → Nat → Nat)), zr_bd X → l + c = 8 → zq_F (d + 3) 42 23 [some (.ref (g + k)), some (.int (nI n)), some (.ref (g + q)), some (.int (nI l))] [] sh (zx g X I0) P nx kx = some (none, sh, zx g (zc_al q len (zr_ob (X (k + 2) n) c l) X) I0, P, nx, kx)
  | 0, l, X, hX, hl => by
    have z : 8 ≤ l := by omega
    rw [q_G_resolve_23]
    simp (disch := first | assumption | omega | exact Nat.le_of_ble_eq_true rfl) only [q_G_resolve_0, q_G_resolve_1, q_G_resolve_4, q_G_resolve_7, q_G_resolve_8, q_G_resolve_8n, q_G_resolve_9, q_G_resolve_10, q_G_resolve_13, q_G_resolve_16, q_G_resolve_16n, q_G_resolve_17, q_G_resolve_18, q_G_resolve_21, q_G_resolve_22, q_G_resolve_24, q_G_resolve_26, q_G_resolve_29, q_G_resolve_29n, q_G_resolve_30, q_G_resolve_31, q_G_resolve_32, q_G_resolve_35, q_G_resolve_38, q_G_resolve_38n, q_G_resolve_39, q_G_resolve_40, q_G_resolve_43, q_G_resolve_46, q_G_resolve_49, q_G_resolve_52, q_G_resolve_53, q_G_resolve_53n, q_G_resolve_54, q_G_resolve_55, q_G_resolve_56, q_G_resolve_57, q_G_resolve_57n, q_G_resolve_58, q_G_resolve_61, q_G_resolve_61n, q_G_resolve_62, q_G_resolve_63, q_G_resolve_64, q_G_resolve_65, q_G_resolve_66, q_G_resolve_67, q_G_resolve_67n, q_G_resolve_68, q_G_resolve_71, Option.bind_some, Option.toList_some, Option.toList_none, List.cons_append, List.nil_append, zq_rf_some, zq_rf_none, ↓reduceIte, zq_lt, zq_le, zq_eq, nI_add, zq_up_s, zq_up_o, zq_up_k, zq_b_eq0, Nat.reduceEqDiff, Nat.reduceLeDiff, Nat.reduceLT, Nat.reduceAdd, not_true_eq_false, not_false_eq_true, Nat.not_lt_zero, zq_on_lt, zq_os, false_or, or_false, or_self, Bool.false_eq_true, z, zr_ob, zc_al]
  | c + 1, l, X, hX, hl => by
    have z : ¬ 8 ≤ l := by omega
    have t1 := ht.1
    have t2 := ht.2.2.2.2.2.2.2
    have w1 := hw.1
    have um := c_isUnmerged (d := d) (nx := nx) (kx := kx) (I0 := I0) ht hX (l := l) (by omega) h1 h2
    by_cases c1 : zq_bt (X (k + 2) n) l = 0
    · have ih := c_resolve_in (d := d) (nx := nx) (kx := kx) (I0 := I0) ht hw hq h1 h2 c (l + 1) X hX (by omega)
      rw [q_G_resolve_23]
      simp (disch := first | assumption | omega | exact Nat.le_of_ble_eq_true rfl) only [q_G_resolve_0, q_G_resolve_1, q_G_resolve_4, q_G_resolve_7, q_G_resolve_8, q_G_resolve_8n, q_G_resolve_9, q_G_resolve_10, q_G_resolve_13, q_G_resolve_16, q_G_resolve_16n, q_G_resolve_17, q_G_resolve_18, q_G_resolve_21, q_G_resolve_22, q_G_resolve_24, q_G_resolve_26, q_G_resolve_29, q_G_resolve_29n, q_G_resolve_30, q_G_resolve_31, q_G_resolve_32, q_G_resolve_35, q_G_resolve_38, q_G_resolve_38n, q_G_resolve_39, q_G_resolve_40, q_G_resolve_43, q_G_resolve_46, q_G_resolve_49, q_G_resolve_52, q_G_resolve_53, q_G_resolve_53n, q_G_resolve_54, q_G_resolve_55, q_G_resolve_56, q_G_resolve_57, q_G_resolve_57n, q_G_resolve_58, q_G_resolve_61, q_G_resolve_61n, q_G_resolve_62, q_G_resolve_63, q_G_resolve_64, q_G_resolve_65, q_G_resolve_66, q_G_resolve_67, q_G_resolve_67n, q_G_resolve_68, q_G_resolve_71, Option.bind_some, Option.toList_some, Option.toList_none, List.cons_append, List.nil_append, zq_rf_some, zq_rf_none, ↓reduceIte, zq_lt, zq_le, zq_eq, nI_add, zq_up_s, zq_up_o, zq_up_k, zq_b_eq0, Nat.reduceEqDiff, Nat.reduceLeDiff, Nat.reduceLT, Nat.reduceAdd, not_true_eq_false, not_false_eq_true, Nat.not_lt_zero, zq_on_lt, zq_os, false_or, or_false, or_self, Bool.false_eq_true, z, um, c1, zr_ob, ih]
    · have ih := c_resolve_in (d := d) (nx := nx) (kx := kx) (I0 := I0) ht hw hq h1 h2 c (l + 1) (zc_ap X q len (8 + l)) (zc_ap_bd hX (by omega) hw.2.2.2.2.2.2) (by omega)
      rw [zc_ap_o (by omega) (by omega)] at ih
      have nl := m_nodeOfLeaf (d := d + 2) (nx := nx) (kx := kx) (sh := sh) (I := zx g X I0) (P := P) l
      have ap := c_append (d := d + 2) (nx := nx) (kx := kx) (I0 := I0) hw hX (x := 8 + l)
      rw [q_G_resolve_23]
      simp (disch := first | assumption | omega | exact Nat.le_of_ble_eq_true rfl) only [q_G_resolve_0, q_G_resolve_1, q_G_resolve_4, q_G_resolve_7, q_G_resolve_8, q_G_resolve_8n, q_G_resolve_9, q_G_resolve_10, q_G_resolve_13, q_G_resolve_16, q_G_resolve_16n, q_G_resolve_17, q_G_resolve_18, q_G_resolve_21, q_G_resolve_22, q_G_resolve_24, q_G_resolve_26, q_G_resolve_29, q_G_resolve_29n, q_G_resolve_30, q_G_resolve_31, q_G_resolve_32, q_G_resolve_35, q_G_resolve_38, q_G_resolve_38n, q_G_resolve_39, q_G_resolve_40, q_G_resolve_43, q_G_resolve_46, q_G_resolve_49, q_G_resolve_52, q_G_resolve_53, q_G_resolve_53n, q_G_resolve_54, q_G_resolve_55, q_G_resolve_56, q_G_resolve_57, q_G_resolve_57n, q_G_resolve_58, q_G_resolve_61, q_G_resolve_61n, q_G_resolve_62, q_G_resolve_63, q_G_resolve_64, q_G_resolve_65, q_G_resolve_66, q_G_resolve_67, q_G_resolve_67n, q_G_resolve_68, q_G_resolve_71, Option.bind_some, Option.toList_some, Option.toList_none, List.cons_append, List.nil_append, zq_rf_some, zq_rf_none, ↓reduceIte, zq_lt, zq_le, zq_eq, nI_add, zq_up_s, zq_up_o, zq_up_k, zq_b_eq0, Nat.reduceEqDiff, Nat.reduceLeDiff, Nat.reduceLT, Nat.reduceAdd, not_true_eq_false, not_false_eq_true, Nat.not_lt_zero, zq_on_lt, zq_os, false_or, or_false, or_self, Bool.false_eq_true, z, um, c1, nl, ap, zr_ob, zc_al, ih]
theorem zq_mul2 (n : Nat) : nI 2 * nI n = nI (2 * n) := by
  rw [pk_mul]
theorem zr_lv_2 {m : Nat} (h1 : 1 ≤ m) (hm : m < 8) : zr_lv m = zr_lv (2 * m) + 1 ∧ zr_lv (2 * m + 1) = zr_lv (2 * m) := by
  unfold zr_lv
  constructor
  · (repeat' split) <;> omega
  · (repeat' split) <;> omega
theorem c_resolve_x {d nx kx g : Nat} {sh : zq_S} {P : zq_P} {X : Nat → Nat → Nat} {I0 : zq_I} {n q : Nat} (hn : 16 ≤ n) (hn2 : n < 100) {k : Nat} : zq_C (d + 1) 42 [.ref (g + k), .int (nI n), .ref (g + q)] sh (zx g X I0) P nx kx = some (none, sh, zx g X I0, P, nx, kx) := by
  have nd := m_isNode (d := d) (nx := nx) (kx := kx) (sh := sh) (I := zx g X I0) (P := P) n (by omega)
  have z : ¬ (1 ≤ n ∧ n ≤ 15) := by omega
  simp (disch := first | assumption | omega | exact Nat.le_of_ble_eq_true rfl) only [q_G_resolve, q_G_resolve_0, q_G_resolve_1, q_G_resolve_4, q_G_resolve_7, q_G_resolve_8, q_G_resolve_8n, q_G_resolve_9, q_G_resolve_10, q_G_resolve_13, q_G_resolve_16, q_G_resolve_16n, q_G_resolve_17, q_G_resolve_18, q_G_resolve_21, q_G_resolve_22, q_G_resolve_24, q_G_resolve_26, q_G_resolve_29, q_G_resolve_29n, q_G_resolve_30, q_G_resolve_31, q_G_resolve_32, q_G_resolve_35, q_G_resolve_38, q_G_resolve_38n, q_G_resolve_39, q_G_resolve_40, q_G_resolve_43, q_G_resolve_46, q_G_resolve_49, q_G_resolve_52, q_G_resolve_53, q_G_resolve_53n, q_G_resolve_54, q_G_resolve_55, q_G_resolve_56, q_G_resolve_57, q_G_resolve_57n, q_G_resolve_58, q_G_resolve_61, q_G_resolve_61n, q_G_resolve_62, q_G_resolve_63, q_G_resolve_64, q_G_resolve_65, q_G_resolve_66, q_G_resolve_67, q_G_resolve_67n, q_G_resolve_68, q_G_resolve_71, Option.bind_some, Option.toList_some, Option.toList_none, List.cons_append, List.nil_append, zq_rf_some, zq_rf_none, ↓reduceIte, zq_lt, zq_le, zq_eq, nI_add, zq_up_s, zq_up_o, zq_up_k, zq_b_eq0, Nat.reduceEqDiff, Nat.reduceLeDiff, Nat.reduceLT, Nat.reduceAdd, not_true_eq_false, not_false_eq_true, Nat.not_lt_zero, zq_on_lt, zq_os, false_or, or_false, or_self, Bool.false_eq_true, nd, z]
theorem c_resolve_go {d nx kx g : Nat} {sh : zq_S} {P : zq_P} {I0 : zq_I} {k q len : Nat} (ht : zc_tr g k sh P) (hw : zc_rw g q len sh P) (hq : q < 25) (K U : Nat → Nat) : ∀ (c n : Nat) (X : (Nat → Nat → Nat)), zr_bd X → (∀ m, X (k + 1) m = K m) → (∀ m, X (k + 2) m = U m) → 1 ≤ n → n ≤ 15 → zr_lv n = c + 1 → zq_C (d + 4 + c) 42 [.ref (g + k), .int (nI n), .ref (g + q)] sh (zx g X I0) P nx kx = some (none, sh, zx g (zc_al q len (zr_re K U n) X) I0, P, nx, kx) := by
  intro c
  induction c with
  | zero =>
    intro n X hX hK hU h1 h2 hv
    have t1 := ht.1
    have t2 := ht.2.2.2.2.2.2.2
    have w1 := hw.1
    have h8 : 8 ≤ n := by
      unfold zr_lv at hv
      (repeat' split at hv) <;> omega
    have nd := m_isNode (d := d + 3) (nx := nx) (kx := kx) (sh := sh) (I := zx g X I0) (P := P) n (by omega)
    have z : 1 ≤ n ∧ n ≤ 15 := ⟨h1, h2⟩
    have bl := c_isBlank (d := d + 1) (nx := nx) (kx := kx) (I0 := I0) ht hX h1 h2
    rw [Nat.add_zero]
    by_cases c1 : K n = 0
    · rw [zr_re_l c1 h8]
      have x1 := c_resolve_x (d := d + 2) (nx := nx) (kx := kx) (I0 := I0) (sh := sh) (P := P) (g := g) (X := X) (n := 2 * n) (q := q) (k := k) (by omega) (by omega)
      have x2 := c_resolve_x (d := d + 2) (nx := nx) (kx := kx) (I0 := I0) (sh := sh) (P := P) (g := g) (X := X) (n := 2 * n + 1) (q := q) (k := k) (by omega) (by omega)
      simp (disch := first | assumption | omega | exact Nat.le_of_ble_eq_true rfl) only [q_G_resolve, q_G_resolve_0, q_G_resolve_1, q_G_resolve_4, q_G_resolve_7, q_G_resolve_8, q_G_resolve_8n, q_G_resolve_9, q_G_resolve_10, q_G_resolve_13, q_G_resolve_16, q_G_resolve_16n, q_G_resolve_17, q_G_resolve_18, q_G_resolve_21, q_G_resolve_22, q_G_resolve_24, q_G_resolve_26, q_G_resolve_29, q_G_resolve_29n, q_G_resolve_30, q_G_resolve_31, q_G_resolve_32, q_G_resolve_35, q_G_resolve_38, q_G_resolve_38n, q_G_resolve_39, q_G_resolve_40, q_G_resolve_43, q_G_resolve_46, q_G_resolve_49, q_G_resolve_52, q_G_resolve_53, q_G_resolve_53n, q_G_resolve_54, q_G_resolve_55, q_G_resolve_56, q_G_resolve_57, q_G_resolve_57n, q_G_resolve_58, q_G_resolve_61, q_G_resolve_61n, q_G_resolve_62, q_G_resolve_63, q_G_resolve_64, q_G_resolve_65, q_G_resolve_66, q_G_resolve_67, q_G_resolve_67n, q_G_resolve_68, q_G_resolve_71, Option.bind_some, Option.toList_some, Option.toList_none, List.cons_append, List.nil_append, zq_rf_some, zq_rf_none, ↓reduceIte, zq_lt, zq_le, zq_eq, nI_add, zq_up_s, zq_up_o, zq_up_k, zq_b_eq0, Nat.reduceEqDiff, Nat.reduceLeDiff, Nat.reduceLT, Nat.reduceAdd, not_true_eq_false, not_false_eq_true, Nat.not_lt_zero, zq_on_lt, zq_os, false_or, or_false, or_self, Bool.false_eq_true, nd, z, and_self, bl, hK, c1, zq_mul2, x1, x2, zc_al]
    · rw [zr_re_k c1]
      have ap := c_append (d := d + 3) (nx := nx) (kx := kx) (I0 := I0) hw hX (x := n)
      have go := c_resolve_in (d := d + 1) (nx := nx) (kx := kx) (I0 := I0) ht hw hq h1 h2 8 0 (zc_ap X q len n) (zc_ap_bd hX (by omega) hw.2.2.2.2.2.2) rfl
      rw [zc_ap_o (by omega) (by omega), hU] at go
      simp (disch := first | assumption | omega | exact Nat.le_of_ble_eq_true rfl) only [q_G_resolve, q_G_resolve_0, q_G_resolve_1, q_G_resolve_4, q_G_resolve_7, q_G_resolve_8, q_G_resolve_8n, q_G_resolve_9, q_G_resolve_10, q_G_resolve_13, q_G_resolve_16, q_G_resolve_16n, q_G_resolve_17, q_G_resolve_18, q_G_resolve_21, q_G_resolve_22, q_G_resolve_24, q_G_resolve_26, q_G_resolve_29, q_G_resolve_29n, q_G_resolve_30, q_G_resolve_31, q_G_resolve_32, q_G_resolve_35, q_G_resolve_38, q_G_resolve_38n, q_G_resolve_39, q_G_resolve_40, q_G_resolve_43, q_G_resolve_46, q_G_resolve_49, q_G_resolve_52, q_G_resolve_53, q_G_resolve_53n, q_G_resolve_54, q_G_resolve_55, q_G_resolve_56, q_G_resolve_57, q_G_resolve_57n, q_G_resolve_58, q_G_resolve_61, q_G_resolve_61n, q_G_resolve_62, q_G_resolve_63, q_G_resolve_64, q_G_resolve_65, q_G_resolve_66, q_G_resolve_67, q_G_resolve_67n, q_G_resolve_68, q_G_resolve_71, Option.bind_some, Option.toList_some, Option.toList_none, List.cons_append, List.nil_append, zq_rf_some, zq_rf_none, ↓reduceIte, zq_lt, zq_le, zq_eq, nI_add, zq_up_s, zq_up_o, zq_up_k, zq_b_eq0, Nat.reduceEqDiff, Nat.reduceLeDiff, Nat.reduceLT, Nat.reduceAdd, not_true_eq_false, not_false_eq_true, Nat.not_lt_zero, zq_on_lt, zq_os, false_or, or_false, or_self, Bool.false_eq_true, nd, z, and_self, bl, hK, c1, ap, go, zc_al]
  | succ c ih =>
    intro n X hX hK hU h1 h2 hv
    have t1 := ht.1
    have t2 := ht.2.2.2.2.2.2.2
    have w1 := hw.1
    have h8 : n < 8 := by
      unfold zr_lv at hv
      (repeat' split at hv) <;> omega
    have nd := m_isNode (d := d + 4 + c) (nx := nx) (kx := kx) (sh := sh) (I := zx g X I0) (P := P) n (by omega)
    have z : 1 ≤ n ∧ n ≤ 15 := ⟨h1, h2⟩
    have e4 : d + 4 + c = d + 2 + c + 2 := by omega
    have bl := c_isBlank (d := d + 2 + c) (nx := nx) (kx := kx) (I0 := I0) ht hX h1 h2
    rw [← e4] at bl
    obtain ⟨v1, v2⟩ := zr_lv_2 h1 h8
    show zq_C (d + 4 + c + 1) 42 [.ref (g + k), .int (nI n), .ref (g + q)] sh (zx g X I0) P nx kx = _
    by_cases c1 : K n = 0
    · rw [zr_re_b c1 h1 h8]
      have i1 := ih (2 * n) X hX hK hU (by omega) (by omega) (by omega)
      have hX' : zr_bd (zc_al q len (zr_re K U (2 * n)) X) := zc_al_bd hw.2.2.2.2.2.2 _ _ hX (fun x hx => Nat.lt_trans (zr_re_lt (by omega) x hx) (by decide))
      have i2 := ih (2 * n + 1) (zc_al q len (zr_re K U (2 * n)) X) hX' (fun m => by rw [zc_al_o (by omega) (by omega), hK]) (fun m => by rw [zc_al_o (by omega) (by omega), hU]) (by omega) (by omega) (by omega)
      simp (disch := first | assumption | omega | exact Nat.le_of_ble_eq_true rfl) only [q_G_resolve, q_G_resolve_0, q_G_resolve_1, q_G_resolve_4, q_G_resolve_7, q_G_resolve_8, q_G_resolve_8n, q_G_resolve_9, q_G_resolve_10, q_G_resolve_13, q_G_resolve_16, q_G_resolve_16n, q_G_resolve_17, q_G_resolve_18, q_G_resolve_21, q_G_resolve_22, q_G_resolve_24, q_G_resolve_26, q_G_resolve_29, q_G_resolve_29n, q_G_resolve_30, q_G_resolve_31, q_G_resolve_32, q_G_resolve_35, q_G_resolve_38, q_G_resolve_38n, q_G_resolve_39, q_G_resolve_40, q_G_resolve_43, q_G_resolve_46, q_G_resolve_49, q_G_resolve_52, q_G_resolve_53, q_G_resolve_53n, q_G_resolve_54, q_G_resolve_55, q_G_resolve_56, q_G_resolve_57, q_G_resolve_57n, q_G_resolve_58, q_G_resolve_61, q_G_resolve_61n, q_G_resolve_62, q_G_resolve_63, q_G_resolve_64, q_G_resolve_65, q_G_resolve_66, q_G_resolve_67, q_G_resolve_67n, q_G_resolve_68, q_G_resolve_71, Option.bind_some, Option.toList_some, Option.toList_none, List.cons_append, List.nil_append, zq_rf_some, zq_rf_none, ↓reduceIte, zq_lt, zq_le, zq_eq, nI_add, zq_up_s, zq_up_o, zq_up_k, zq_b_eq0, Nat.reduceEqDiff, Nat.reduceLeDiff, Nat.reduceLT, Nat.reduceAdd, not_true_eq_false, not_false_eq_true, Nat.not_lt_zero, zq_on_lt, zq_os, false_or, or_false, or_self, Bool.false_eq_true, nd, z, and_self, bl, hK, c1, zq_mul2, i1, i2, zc_al_app]
    · rw [zr_re_k c1]
      have ap := c_append (d := d + 4 + c) (nx := nx) (kx := kx) (I0 := I0) hw hX (x := n)
      have go := c_resolve_in (d := d + 2 + c) (nx := nx) (kx := kx) (I0 := I0) ht hw hq h1 h2 8 0 (zc_ap X q len n) (zc_ap_bd hX (by omega) hw.2.2.2.2.2.2) rfl
      rw [zc_ap_o (by omega) (by omega), hU, show d + 2 + c + 3 = d + 4 + c + 1 by omega] at go
      simp (disch := first | assumption | omega | exact Nat.le_of_ble_eq_true rfl) only [q_G_resolve, q_G_resolve_0, q_G_resolve_1, q_G_resolve_4, q_G_resolve_7, q_G_resolve_8, q_G_resolve_8n, q_G_resolve_9, q_G_resolve_10, q_G_resolve_13, q_G_resolve_16, q_G_resolve_16n, q_G_resolve_17, q_G_resolve_18, q_G_resolve_21, q_G_resolve_22, q_G_resolve_24, q_G_resolve_26, q_G_resolve_29, q_G_resolve_29n, q_G_resolve_30, q_G_resolve_31, q_G_resolve_32, q_G_resolve_35, q_G_resolve_38, q_G_resolve_38n, q_G_resolve_39, q_G_resolve_40, q_G_resolve_43, q_G_resolve_46, q_G_resolve_49, q_G_resolve_52, q_G_resolve_53, q_G_resolve_53n, q_G_resolve_54, q_G_resolve_55, q_G_resolve_56, q_G_resolve_57, q_G_resolve_57n, q_G_resolve_58, q_G_resolve_61, q_G_resolve_61n, q_G_resolve_62, q_G_resolve_63, q_G_resolve_64, q_G_resolve_65, q_G_resolve_66, q_G_resolve_67, q_G_resolve_67n, q_G_resolve_68, q_G_resolve_71, Option.bind_some, Option.toList_some, Option.toList_none, List.cons_append, List.nil_append, zq_rf_some, zq_rf_none, ↓reduceIte, zq_lt, zq_le, zq_eq, nI_add, zq_up_s, zq_up_o, zq_up_k, zq_b_eq0, Nat.reduceEqDiff, Nat.reduceLeDiff, Nat.reduceLT, Nat.reduceAdd, not_true_eq_false, not_false_eq_true, Nat.not_lt_zero, zq_on_lt, zq_os, false_or, or_false, or_self, Bool.false_eq_true, nd, z, and_self, bl, hK, c1, ap, go, zc_al]
theorem c_resolve {d nx kx g : Nat} {sh : zq_S} {P : zq_P} {X : Nat → Nat → Nat} {I0 : zq_I} {k q len n : Nat} (ht : zc_tr g k sh P) (hw : zc_rw g q len sh P) (hq : q < 25) (hX : zr_bd X) (h1 : 1 ≤ n) (h2 : n ≤ 15) : zq_C (d + 7) 42 [.ref (g + k), .int (nI n), .ref (g + q)] sh (zx g X I0) P nx kx = some (none, sh, zx g (zc_al q len (zr_re (X (k + 1)) (X (k + 2)) n) X) I0, P, nx, kx) := by
  obtain ⟨c, hc⟩ := zr_lv_p n
  have hc3 : c ≤ 3 := by
    unfold zr_lv at hc
    (repeat' split at hc) <;> omega
  have go := c_resolve_go (d := d + 3 - c) (nx := nx) (kx := kx) (I0 := I0) ht hw hq (X (k + 1)) (X (k + 2)) c n X hX (fun _ => rfl) (fun _ => rfl) h1 h2 hc
  rw [show d + 3 - c + 4 + c = d + 7 by omega] at go
  exact go
