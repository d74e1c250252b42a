/-! THE REFERENCE: its memory out of natural numbers S (array, place); array 0: newest + 1, made, proposals, messages at their fields' places -/
def ze (k j v : Nat) : Int32 := if k = 0 ∧ j = 0 then nI v - nI 1 else if k = 13 ∧ 1000 ≤ v then -(nI (v - 1000)) else nI v
def zi (r : Nat) (S : Nat → Nat → Nat) (I0 : zq_I) : zq_I := fun a j => if r ≤ a ∧ a < r + 19 then ze (a - r) j (S (a - r) j) else I0 a j
def zr_lay (r : Nat) (sh : zq_S) (P : zq_P) : Prop := (sh r).1 = 106 ∧ (sh (r + 1)).1 = 2 ∧ (sh (r + 1)).2 = 352 ∧ (sh (r + 2)).1 = 2 ∧ (sh (r + 2)).2 = 352 ∧ (sh (r + 3)).1 = 2 ∧ (sh (r + 3)).2 = 21 ∧ (sh (r + 4)).1 = 2 ∧ (sh (r + 4)).2 = 21 ∧ (sh (r + 5)).1 = 2 ∧ (sh (r + 5)).2 = 21 ∧ (sh (r + 6)).1 = 2 ∧ (sh (r + 6)).2 = 10 ∧ (sh (r + 7)).1 = 2 ∧ (sh (r + 7)).2 = 10 ∧ (sh (r + 8)).1 = 2 ∧ (sh (r + 8)).2 = 10 ∧ (sh (r + 9)).1 = 2 ∧ (sh (r + 9)).2 = 10 ∧ (sh (r + 10)).1 = 2 ∧ (sh (r + 10)).2 = 32 ∧ (sh (r + 11)).1 = 2 ∧ (sh (r + 11)).2 = 32 ∧ (sh (r + 12)).1 = 2 ∧ (sh (r + 12)).2 = 32 ∧ (sh (r + 13)).1 = 2 ∧ (sh (r + 13)).2 = 640 ∧ (sh (r + 14)).1 = 2 ∧ (sh (r + 14)).2 = 640 ∧ (sh (r + 15)).1 = 3 ∧ (sh (r + 15)).2 = 121 ∧ (sh (r + 16)).1 = 3 ∧ (sh (r + 16)).2 = 21 ∧ (sh (r + 17)).1 = 2 ∧ (sh (r + 17)).2 = 16 ∧ (sh (r + 18)).1 = 2 ∧ (sh (r + 18)).2 = 16 ∧ P r 2 = some (r + 1) ∧ P r 3 = some (r + 2) ∧ P r 4 = some (r + 3) ∧ P r 5 = some (r + 4) ∧ P r 6 = some (r + 5) ∧ P r 7 = some (r + 6) ∧ P r 8 = some (r + 7) ∧ P r 9 = some (r + 8) ∧ P r 10 = some (r + 9) ∧ P r 12 = some (r + 10) ∧ P r 13 = some (r + 11) ∧ P r 14 = some (r + 12) ∧ P r 16 = some (r + 13) ∧ P r 17 = some (r + 14) ∧ P r 18 = some (r + 15) ∧ P r 19 = some (r + 16) ∧ P r 20 = some (r + 17) ∧ P r 21 = some (r + 18)
section ZI
variable {r : Nat} {S : Nat → Nat → Nat} {I0 : zq_I} {j v : Nat}
theorem zi_get {k : Nat} (hk : k < 19) : zi r S I0 (r + k) j = ze k j (S k j) := by
  unfold zi
  rw [if_pos (by omega), Nat.add_sub_cancel_left]
theorem zi_out {a : Nat} (h : ¬ (r ≤ a ∧ a < r + 19)) : zi r S I0 a j = I0 a j := if_neg h
theorem zi_1 : zi r S I0 (r + 1) j = nI (S 1 j) := by rw [zi_get (by decide)]; simp [ze]
theorem zi_2 : zi r S I0 (r + 2) j = nI (S 2 j) := by rw [zi_get (by decide)]; simp [ze]
theorem zi_3 : zi r S I0 (r + 3) j = nI (S 3 j) := by rw [zi_get (by decide)]; simp [ze]
theorem zi_4 : zi r S I0 (r + 4) j = nI (S 4 j) := by rw [zi_get (by decide)]; simp [ze]
theorem zi_5 : zi r S I0 (r + 5) j = nI (S 5 j) := by rw [zi_get (by decide)]; simp [ze]
theorem zi_6 : zi r S I0 (r + 6) j = nI (S 6 j) := by rw [zi_get (by decide)]; simp [ze]
theorem zi_7 : zi r S I0 (r + 7) j = nI (S 7 j) := by rw [zi_get (by decide)]; simp [ze]
theorem zi_8 : zi r S I0 (r + 8) j = nI (S 8 j) := by rw [zi_get (by decide)]; simp [ze]
theorem zi_9 : zi r S I0 (r + 9) j = nI (S 9 j) := by rw [zi_get (by decide)]; simp [ze]
theorem zi_10 : zi r S I0 (r + 10) j = nI (S 10 j) := by rw [zi_get (by decide)]; simp [ze]
theorem zi_11 : zi r S I0 (r + 11) j = nI (S 11 j) := by rw [zi_get (by decide)]; simp [ze]
theorem zi_12 : zi r S I0 (r + 12) j = nI (S 12 j) := by rw [zi_get (by decide)]; simp [ze]
theorem zi_14 : zi r S I0 (r + 14) j = nI (S 14 j) := by rw [zi_get (by decide)]; simp [ze]
theorem zi_15 : zi r S I0 (r + 15) j = nI (S 15 j) := by rw [zi_get (by decide)]; simp [ze]
theorem zi_16 : zi r S I0 (r + 16) j = nI (S 16 j) := by rw [zi_get (by decide)]; simp [ze]
theorem zi_17 : zi r S I0 (r + 17) j = nI (S 17 j) := by rw [zi_get (by decide)]; simp [ze]
theorem zi_18 : zi r S I0 (r + 18) j = nI (S 18 j) := by rw [zi_get (by decide)]; simp [ze]
theorem zi_f0 : zi r S I0 r 0 = nI (S 0 0) - nI 1 := zi_get (k := 0) (by decide)
theorem zi_f1 : zi r S I0 r 1 = nI (S 0 1) := (zi_get (k := 0) (by decide)).trans (by simp [ze])
theorem zi_f11 : zi r S I0 r 11 = nI (S 0 11) := (zi_get (k := 0) (by decide)).trans (by simp [ze])
theorem zi_f15 : zi r S I0 r 15 = nI (S 0 15) := (zi_get (k := 0) (by decide)).trans (by simp [ze])
theorem zi_upg {k : Nat} {x : Int32} {w : Nat} (hk : k < 19) (hx : ze k j w = x) : zq_up (zi r S I0) (r + k) j x = zi r (zq_up S k j w) I0 := by
  funext a i
  unfold zq_up zi
  by_cases ha : r ≤ a ∧ a < r + 19
  · by_cases h1 : a = r + k
    · subst h1
      rw [if_pos ha, if_pos ha, Nat.add_sub_cancel_left]
      by_cases h2 : i = j
      · subst h2
        simp [hx]
      · simp [h2]
    · rw [if_neg (fun q => h1 q.1), if_pos ha, if_pos ha]
      dsimp only
      rw [if_neg (fun q => h1 (by omega))]
  · rw [if_neg (fun q => ha (by omega)), if_neg ha, if_neg ha]
theorem zi_u1 : zq_up (zi r S I0) (r + 1) j (nI v) = zi r (zq_up S 1 j v) I0 := zi_upg (by decide) (by simp [ze])
theorem zi_u2 : zq_up (zi r S I0) (r + 2) j (nI v) = zi r (zq_up S 2 j v) I0 := zi_upg (by decide) (by simp [ze])
theorem zi_u3 : zq_up (zi r S I0) (r + 3) j (nI v) = zi r (zq_up S 3 j v) I0 := zi_upg (by decide) (by simp [ze])
theorem zi_u4 : zq_up (zi r S I0) (r + 4) j (nI v) = zi r (zq_up S 4 j v) I0 := zi_upg (by decide) (by simp [ze])
theorem zi_u5 : zq_up (zi r S I0) (r + 5) j (nI v) = zi r (zq_up S 5 j v) I0 := zi_upg (by decide) (by simp [ze])
theorem zi_u6 : zq_up (zi r S I0) (r + 6) j (nI v) = zi r (zq_up S 6 j v) I0 := zi_upg (by decide) (by simp [ze])
theorem zi_u7 : zq_up (zi r S I0) (r + 7) j (nI v) = zi r (zq_up S 7 j v) I0 := zi_upg (by decide) (by simp [ze])
theorem zi_u8 : zq_up (zi r S I0) (r + 8) j (nI v) = zi r (zq_up S 8 j v) I0 := zi_upg (by decide) (by simp [ze])
theorem zi_u9 : zq_up (zi r S I0) (r + 9) j (nI v) = zi r (zq_up S 9 j v) I0 := zi_upg (by decide) (by simp [ze])
theorem zi_u10 : zq_up (zi r S I0) (r + 10) j (nI v) = zi r (zq_up S 10 j v) I0 := zi_upg (by decide) (by simp [ze])
theorem zi_u11 : zq_up (zi r S I0) (r + 11) j (nI v) = zi r (zq_up S 11 j v) I0 := zi_upg (by decide) (by simp [ze])
theorem zi_u12 : zq_up (zi r S I0) (r + 12) j (nI v) = zi r (zq_up S 12 j v) I0 := zi_upg (by decide) (by simp [ze])
theorem zi_u14 : zq_up (zi r S I0) (r + 14) j (nI v) = zi r (zq_up S 14 j v) I0 := zi_upg (by decide) (by simp [ze])
theorem zi_u15 : zq_up (zi r S I0) (r + 15) j (nI v) = zi r (zq_up S 15 j v) I0 := zi_upg (by decide) (by simp [ze])
theorem zi_u16 : zq_up (zi r S I0) (r + 16) j (nI v) = zi r (zq_up S 16 j v) I0 := zi_upg (by decide) (by simp [ze])
theorem zi_u17 : zq_up (zi r S I0) (r + 17) j (nI v) = zi r (zq_up S 17 j v) I0 := zi_upg (by decide) (by simp [ze])
theorem zi_u18 : zq_up (zi r S I0) (r + 18) j (nI v) = zi r (zq_up S 18 j v) I0 := zi_upg (by decide) (by simp [ze])
theorem zi_v0 : zq_up (zi r S I0) r 0 (nI v) = zi r (zq_up S 0 0 (v + 1)) I0 := zi_upg (k := 0) (by decide) (by simp [ze, nI_pred, show nI 1 = 1 from rfl])
theorem zi_v1 : zq_up (zi r S I0) r 1 (nI v) = zi r (zq_up S 0 1 v) I0 := zi_upg (k := 0) (by decide) (by simp [ze])
theorem zi_v11 : zq_up (zi r S I0) r 11 (nI v) = zi r (zq_up S 0 11 v) I0 := zi_upg (k := 0) (by decide) (by simp [ze])
theorem zi_v15 : zq_up (zi r S I0) r 15 (nI v) = zi r (zq_up S 0 15 v) I0 := zi_upg (k := 0) (by decide) (by simp [ze])
theorem zi_u13 (h : v < 1000) : zq_up (zi r S I0) (r + 13) j (nI v) = zi r (zq_up S 13 j v) I0 := zi_upg (by decide) (by simp [ze]; omega)
theorem zi_u13n : zq_up (zi r S I0) (r + 13) j (-(nI v)) = zi r (zq_up S 13 j (1000 + v)) I0 := zi_upg (by decide) (by simp [ze])
theorem zi_13 (h : S 13 j < 1000) : zi r S I0 (r + 13) j = nI (S 13 j) := by rw [zi_get (by decide)]; simp [ze]; omega
theorem zi_13n {w : Nat} (h : S 13 j = 1000 + w) : zi r S I0 (r + 13) j = -(nI w) := by rw [zi_get (by decide), h]; simp [ze]
end ZI
theorem zq_and1 : nI 1 &&& 1 = nI 1 := by decide
section MR
variable {d nx kx r : Nat} {sh : zq_S} {P : zq_P} {S : Nat → Nat → Nat} {I0 : zq_I}
theorem m_M_out {I : zq_I} (v : Int32) (n : Nat) : zq_C d 77 [.ref r, .int v, .int (nI n)] sh I P nx kx = some (some (.int (zq_b (v < nI 0 ∨ nI n ≤ v))), sh, I, P, nx, kx) := by
  by_cases h1 : v < nI 0
  · rw [zq_b_t (Or.inl h1)]
    simp (disch := first | assumption | omega | exact Nat.le_of_ble_eq_true rfl) only [q_M_out, q_M_out_0, q_M_out_1, q_M_out_4, q_M_out_5, q_M_out_6, q_M_out_9, q_M_out_10, q_M_out_13, q_M_out_14_0, q_M_out_14_1, q_M_out_14_b, Option.bind_some, Option.toList_some, Option.toList_none, List.cons_append, List.nil_append, zq_rf_some, zq_rf_none, ↓reduceIte, zq_lt, zq_le, zq_eq, nI_add, zq_up_s, zq_up_o, zq_up_k, zq_b_eq0, Nat.reduceEqDiff, Nat.reduceLeDiff, Nat.reduceLT, Nat.reduceAdd, not_true_eq_false, not_false_eq_true, Nat.not_lt_zero, zq_on_lt, zq_os, h1]
  · by_cases h2 : v < nI n
    · have h3 : ¬ nI n ≤ v := Int32.not_le.mpr h2
      rw [zq_b_f (fun q => q.elim h1 h3)]
      simp (disch := first | assumption | omega | exact Nat.le_of_ble_eq_true rfl) only [q_M_out, q_M_out_0, q_M_out_1, q_M_out_4, q_M_out_5, q_M_out_6, q_M_out_9, q_M_out_10, q_M_out_13, q_M_out_14_0, q_M_out_14_1, q_M_out_14_b, Option.bind_some, Option.toList_some, Option.toList_none, List.cons_append, List.nil_append, zq_rf_some, zq_rf_none, ↓reduceIte, zq_lt, zq_le, zq_eq, nI_add, zq_up_s, zq_up_o, zq_up_k, zq_b_eq0, Nat.reduceEqDiff, Nat.reduceLeDiff, Nat.reduceLT, Nat.reduceAdd, not_true_eq_false, not_false_eq_true, Nat.not_lt_zero, zq_on_lt, zq_os, h1, h2]
    · rw [zq_b_t (Or.inr (Int32.not_lt.mp h2))]
      simp (disch := first | assumption | omega | exact Nat.le_of_ble_eq_true rfl) only [q_M_out, q_M_out_0, q_M_out_1, q_M_out_4, q_M_out_5, q_M_out_6, q_M_out_9, q_M_out_10, q_M_out_13, q_M_out_14_0, q_M_out_14_1, q_M_out_14_b, Option.bind_some, Option.toList_some, Option.toList_none, List.cons_append, List.nil_append, zq_rf_some, zq_rf_none, ↓reduceIte, zq_lt, zq_le, zq_eq, nI_add, zq_up_s, zq_up_o, zq_up_k, zq_b_eq0, Nat.reduceEqDiff, Nat.reduceLeDiff, Nat.reduceLT, Nat.reduceAdd, not_true_eq_false, not_false_eq_true, Nat.not_lt_zero, zq_on_lt, zq_os, h1, h2]
def zr_fd (S : Nat → Nat → Nat) (k w : Nat) : Nat → Nat → Option Nat
  | 0, _ => none
  | c + 1, i => if S 10 i = k ∧ S 11 i = w then some i else zr_fd S k w c (i + 1)
def zr_fi (S : Nat → Nat → Nat) (k w : Nat) : Option Nat := zr_fd S k w (S 0 11) 0
end MR
theorem m_M_proposed_go {d nx kx r : Nat} {sh : zq_S} {P : zq_P} {S : Nat → Nat → Nat} {I0 : zq_I} (hM : zr_lay r sh P) {k w : Nat} (hk : k < 2147483648) (hw : w < 2147483648) (hn : S 0 11 ≤ 32) (hS : ∀ k j, S k j < 2147483648) : ∀ (c i : Nat), i + c = S 0 11 → zq_F d 80 2 [some (.ref r), some (.int (nI k)), some (.int (nI w)), some (.int (nI i))] [] sh (zi r S I0) P nx kx = some (some (.int (zq_o (zr_fd S k w c i))), sh, zi r S I0, P, nx, kx)
  | 0, i, h => by
    obtain ⟨s0, t1, n1, t2, n2, t3, n3, t4, n4, t5, n5, t6, n6, t7, n7, t8, n8, t9, n9, t10, n10, t11, n11, t12, n12, t13, n13, t14, n14, t15, n15, t16, n16, t17, n17, t18, n18, p1, p2, p3, p4, p5, p6, p7, p8, p9, p10, p11, p12, p13, p14, p15, p16, p17, p18⟩ := id hM
    have h1 : S 0 11 ≤ i := by omega
    simp (disch := first | assumption | omega | exact Nat.le_of_ble_eq_true rfl) only [q_M_proposed_2, q_M_proposed_0, q_M_proposed_1, q_M_proposed_3, q_M_proposed_3n, q_M_proposed_4, q_M_proposed_7, q_M_proposed_10, q_M_proposed_10n, q_M_proposed_11, q_M_proposed_14, q_M_proposed_15, q_M_proposed_16, q_M_proposed_17, q_M_proposed_20, q_M_proposed_20n, q_M_proposed_21, q_M_proposed_24, q_M_proposed_25, q_M_proposed_26, q_M_proposed_27, q_M_proposed_30, q_M_proposed_31, q_M_proposed_32, q_M_proposed_35, q_M_proposed_38, q_M_proposed_39, Option.bind_some, Option.toList_some, Option.toList_none, List.cons_append, List.nil_append, zq_rf_some, zq_rf_none, ↓reduceIte, zq_lt, zq_le, zq_eq, nI_add, zq_up_s, zq_up_o, zq_up_k, zq_b_eq0, Nat.reduceEqDiff, Nat.reduceLeDiff, Nat.reduceLT, Nat.reduceAdd, not_true_eq_false, not_false_eq_true, Nat.not_lt_zero, zq_on_lt, zq_os, p1, p2, p3, p4, p5, p6, p7, p8, p9, p10, p11, p12, p13, p14, p15, p16, p17, p18, zi_1, zi_2, zi_3, zi_4, zi_5, zi_6, zi_7, zi_8, zi_9, zi_10, zi_11, zi_12, zi_14, zi_15, zi_16, zi_17, zi_18, zi_f0, zi_f1, zi_f11, zi_f15, zi_u1, zi_u2, zi_u3, zi_u4, zi_u5, zi_u6, zi_u7, zi_u8, zi_u9, zi_u10, zi_u11, zi_u12, zi_u14, zi_u15, zi_u16, zi_u17, zi_u18, zi_v0, zi_v1, zi_v11, zi_v15, h1, zr_fd, zq_o]
  | c + 1, i, h => by
    have ih := m_M_proposed_go (d := d) (nx := nx) (kx := kx) (I0 := I0) hM hk hw hn hS c (i + 1) (by omega)
    obtain ⟨s0, t1, n1, t2, n2, t3, n3, t4, n4, t5, n5, t6, n6, t7, n7, t8, n8, t9, n9, t10, n10, t11, n11, t12, n12, t13, n13, t14, n14, t15, n15, t16, n16, t17, n17, t18, n18, p1, p2, p3, p4, p5, p6, p7, p8, p9, p10, p11, p12, p13, p14, p15, p16, p17, p18⟩ := id hM
    have h1 : ¬ S 0 11 ≤ i := by omega
    have g1 := hS 10 i
    have g2 := hS 11 i
    have g3 := hS 0 11
    by_cases e1 : S 10 i = k
    · by_cases e2 : S 11 i = w
      · simp (disch := first | assumption | omega | exact Nat.le_of_ble_eq_true rfl) only [q_M_proposed_2, q_M_proposed_0, q_M_proposed_1, q_M_proposed_3, q_M_proposed_3n, q_M_proposed_4, q_M_proposed_7, q_M_proposed_10, q_M_proposed_10n, q_M_proposed_11, q_M_proposed_14, q_M_proposed_15, q_M_proposed_16, q_M_proposed_17, q_M_proposed_20, q_M_proposed_20n, q_M_proposed_21, q_M_proposed_24, q_M_proposed_25, q_M_proposed_26, q_M_proposed_27, q_M_proposed_30, q_M_proposed_31, q_M_proposed_32, q_M_proposed_35, q_M_proposed_38, q_M_proposed_39, Option.bind_some, Option.toList_some, Option.toList_none, List.cons_append, List.nil_append, zq_rf_some, zq_rf_none, ↓reduceIte, zq_lt, zq_le, zq_eq, nI_add, zq_up_s, zq_up_o, zq_up_k, zq_b_eq0, Nat.reduceEqDiff, Nat.reduceLeDiff, Nat.reduceLT, Nat.reduceAdd, not_true_eq_false, not_false_eq_true, Nat.not_lt_zero, zq_on_lt, zq_os, p1, p2, p3, p4, p5, p6, p7, p8, p9, p10, p11, p12, p13, p14, p15, p16, p17, p18, zi_1, zi_2, zi_3, zi_4, zi_5, zi_6, zi_7, zi_8, zi_9, zi_10, zi_11, zi_12, zi_14, zi_15, zi_16, zi_17, zi_18, zi_f0, zi_f1, zi_f11, zi_f15, zi_u1, zi_u2, zi_u3, zi_u4, zi_u5, zi_u6, zi_u7, zi_u8, zi_u9, zi_u10, zi_u11, zi_u12, zi_u14, zi_u15, zi_u16, zi_u17, zi_u18, zi_v0, zi_v1, zi_v11, zi_v15, h1, zr_fd, zq_o, e1, e2, not_true, and_self]
      · simp (disch := first | assumption | omega | exact Nat.le_of_ble_eq_true rfl) only [q_M_proposed_2, q_M_proposed_0, q_M_proposed_1, q_M_proposed_3, q_M_proposed_3n, q_M_proposed_4, q_M_proposed_7, q_M_proposed_10, q_M_proposed_10n, q_M_proposed_11, q_M_proposed_14, q_M_proposed_15, q_M_proposed_16, q_M_proposed_17, q_M_proposed_20, q_M_proposed_20n, q_M_proposed_21, q_M_proposed_24, q_M_proposed_25, q_M_proposed_26, q_M_proposed_27, q_M_proposed_30, q_M_proposed_31, q_M_proposed_32, q_M_proposed_35, q_M_proposed_38, q_M_proposed_39, Option.bind_some, Option.toList_some, Option.toList_none, List.cons_append, List.nil_append, zq_rf_some, zq_rf_none, ↓reduceIte, zq_lt, zq_le, zq_eq, nI_add, zq_up_s, zq_up_o, zq_up_k, zq_b_eq0, Nat.reduceEqDiff, Nat.reduceLeDiff, Nat.reduceLT, Nat.reduceAdd, not_true_eq_false, not_false_eq_true, Nat.not_lt_zero, zq_on_lt, zq_os, p1, p2, p3, p4, p5, p6, p7, p8, p9, p10, p11, p12, p13, p14, p15, p16, p17, p18, zi_1, zi_2, zi_3, zi_4, zi_5, zi_6, zi_7, zi_8, zi_9, zi_10, zi_11, zi_12, zi_14, zi_15, zi_16, zi_17, zi_18, zi_f0, zi_f1, zi_f11, zi_f15, zi_u1, zi_u2, zi_u3, zi_u4, zi_u5, zi_u6, zi_u7, zi_u8, zi_u9, zi_u10, zi_u11, zi_u12, zi_u14, zi_u15, zi_u16, zi_u17, zi_u18, zi_v0, zi_v1, zi_v11, zi_v15, h1, zr_fd, e1, e2, not_true, not_false_eq_true, and_false, ih]
    · simp (disch := first | assumption | omega | exact Nat.le_of_ble_eq_true rfl) only [q_M_proposed_2, q_M_proposed_0, q_M_proposed_1, q_M_proposed_3, q_M_proposed_3n, q_M_proposed_4, q_M_proposed_7, q_M_proposed_10, q_M_proposed_10n, q_M_proposed_11, q_M_proposed_14, q_M_proposed_15, q_M_proposed_16, q_M_proposed_17, q_M_proposed_20, q_M_proposed_20n, q_M_proposed_21, q_M_proposed_24, q_M_proposed_25, q_M_proposed_26, q_M_proposed_27, q_M_proposed_30, q_M_proposed_31, q_M_proposed_32, q_M_proposed_35, q_M_proposed_38, q_M_proposed_39, Option.bind_some, Option.toList_some, Option.toList_none, List.cons_append, List.nil_append, zq_rf_some, zq_rf_none, ↓reduceIte, zq_lt, zq_le, zq_eq, nI_add, zq_up_s, zq_up_o, zq_up_k, zq_b_eq0, Nat.reduceEqDiff, Nat.reduceLeDiff, Nat.reduceLT, Nat.reduceAdd, not_true_eq_false, not_false_eq_true, Nat.not_lt_zero, zq_on_lt, zq_os, p1, p2, p3, p4, p5, p6, p7, p8, p9, p10, p11, p12, p13, p14, p15, p16, p17, p18, zi_1, zi_2, zi_3, zi_4, zi_5, zi_6, zi_7, zi_8, zi_9, zi_10, zi_11, zi_12, zi_14, zi_15, zi_16, zi_17, zi_18, zi_f0, zi_f1, zi_f11, zi_f15, zi_u1, zi_u2, zi_u3, zi_u4, zi_u5, zi_u6, zi_u7, zi_u8, zi_u9, zi_u10, zi_u11, zi_u12, zi_u14, zi_u15, zi_u16, zi_u17, zi_u18, zi_v0, zi_v1, zi_v11, zi_v15, h1, zr_fd, e1, not_false_eq_true, false_and, ih]
