/-! the reference: messages -/
def zr_ad (S : Nat → Nat → Nat) (x : Nat) : Bool := (List.range (S 0 11)).any (fun i => decide (S 10 i = 2) && decide (S 9 (S 11 i) + 8 = x))
theorem zr_sub8 : ∀ a, a < 8 → ∀ x, x < 16 → ((nI a = nI x - nI 8) ↔ a + 8 = x) := by decide +kernel
theorem m_M_isAdded_go {d nx kx r x : Nat} {sh : zq_S} {P : zq_P} {S : Nat → Nat → Nat} {I0 : zq_I} (hM : zr_lay r sh P) (hS : zr_ok S) (hx : x < 16) : ∀ (c i : Nat), i + c = S 0 11 → zq_F d 91 2 [some (.ref r), some (.int (nI x)), some (.int (nI i))] [] sh (zi r S I0) P nx kx = some (some (.int (zq_b (∃ j, i ≤ j ∧ j < S 0 11 ∧ S 10 j = 2 ∧ S 9 (S 11 j) + 8 = x))), sh, zi r S I0, P, nx, kx)
  | 0, i, h => by
    have s0 := hM.1
    have h1 : S 0 11 ≤ i := by omega
    have h2 := hS.2.1
    rw [zq_b_f (by rintro ⟨j, a1, a2, -⟩; omega), q_M_isAdded_2]
    simp (disch := first | assumption | omega | exact Nat.le_of_ble_eq_true rfl) only [q_M_isAdded_0, q_M_isAdded_1, q_M_isAdded_3, q_M_isAdded_3n, q_M_isAdded_4, q_M_isAdded_7, q_M_isAdded_10, q_M_isAdded_10n, q_M_isAdded_11, q_M_isAdded_14, q_M_isAdded_15, q_M_isAdded_16, q_M_isAdded_17, q_M_isAdded_20, q_M_isAdded_20n, q_M_isAdded_21, q_M_isAdded_24, q_M_isAdded_24n, q_M_isAdded_25, q_M_isAdded_28, q_M_isAdded_29, q_M_isAdded_30, q_M_isAdded_31, q_M_isAdded_32, q_M_isAdded_34, q_M_isAdded_35, q_M_isAdded_38, q_M_isAdded_39_0, q_M_isAdded_39_1, q_M_isAdded_39_b, q_M_isAdded_40, q_M_isAdded_43, q_M_isAdded_46, q_M_isAdded_47_0, q_M_isAdded_47_1, q_M_isAdded_47_b, Option.bind_some, Option.toList_some, Option.toList_none, List.cons_append, List.nil_append, zq_rf_some, zq_rf_none, ↓reduceIte, zq_lt, zq_le, zq_eq, nI_add, zq_up_s, zq_up_o, zq_up_k, zq_b_eq0, Nat.reduceEqDiff, Nat.reduceLeDiff, Nat.reduceLT, Nat.reduceAdd, not_true_eq_false, not_false_eq_true, Nat.not_lt_zero, zq_on_lt, zq_os, false_or, or_false, or_self, Bool.false_eq_true, zi_1, zi_2, zi_3, zi_4, zi_5, zi_6, zi_7, zi_8, zi_9, zi_10, zi_11, zi_12, zi_14, zi_15, zi_16, zi_17, zi_18, zi_f0, zi_f1, zi_f11, zi_f15, zi_u1, zi_u2, zi_u3, zi_u4, zi_u5, zi_u6, zi_u7, zi_u8, zi_u9, zi_u10, zi_u11, zi_u12, zi_u14, zi_u15, zi_u16, zi_u17, zi_u18, zi_v0, zi_v1, zi_v11, zi_v15, h1]
  | c + 1, i, h => by
    have h2 := hS.2.1
    have h1 : ¬ S 0 11 ≤ i := by omega
    have b1 := hS.1.lt 10 i
    have b2 := hS.2.2.2.1 i
    have b3 := hS.2.2.1 (S 11 i)
    have ih := m_M_isAdded_go (d := d) (nx := nx) (kx := kx) (I0 := I0) hM hS hx c (i + 1) (by omega)
    by_cases c1 : S 10 i = 2 ∧ S 9 (S 11 i) + 8 = x
    · rw [zq_b_t (show ∃ j, i ≤ j ∧ j < S 0 11 ∧ S 10 j = 2 ∧ S 9 (S 11 j) + 8 = x from ⟨i, by omega, by omega, c1.1, c1.2⟩)]
      have c2 := (zr_sub8 _ b3 x hx).mpr c1.2
      have c3 := c1.1
      obtain ⟨s0, t1, n1, t2, n2, t3, n3, t4, n4, t5, n5, t6, n6, t7, n7, t8, n8, t9, n9, t10, n10, t11, n11, t12, n12, t13, n13, t14, n14, t15, n15, t16, n16, t17, n17, t18, n18, p1, p2, p3, p4, p5, p6, p7, p8, p9, p10, p11, p12, p13, p14, p15, p16, p17, p18⟩ := id hM
      rw [q_M_isAdded_2]
      simp (disch := first | assumption | omega | exact Nat.le_of_ble_eq_true rfl) only [q_M_isAdded_0, q_M_isAdded_1, q_M_isAdded_3, q_M_isAdded_3n, q_M_isAdded_4, q_M_isAdded_7, q_M_isAdded_10, q_M_isAdded_10n, q_M_isAdded_11, q_M_isAdded_14, q_M_isAdded_15, q_M_isAdded_16, q_M_isAdded_17, q_M_isAdded_20, q_M_isAdded_20n, q_M_isAdded_21, q_M_isAdded_24, q_M_isAdded_24n, q_M_isAdded_25, q_M_isAdded_28, q_M_isAdded_29, q_M_isAdded_30, q_M_isAdded_31, q_M_isAdded_32, q_M_isAdded_34, q_M_isAdded_35, q_M_isAdded_38, q_M_isAdded_39_0, q_M_isAdded_39_1, q_M_isAdded_39_b, q_M_isAdded_40, q_M_isAdded_43, q_M_isAdded_46, q_M_isAdded_47_0, q_M_isAdded_47_1, q_M_isAdded_47_b, Option.bind_some, Option.toList_some, Option.toList_none, List.cons_append, List.nil_append, zq_rf_some, zq_rf_none, ↓reduceIte, zq_lt, zq_le, zq_eq, nI_add, zq_up_s, zq_up_o, zq_up_k, zq_b_eq0, Nat.reduceEqDiff, Nat.reduceLeDiff, Nat.reduceLT, Nat.reduceAdd, not_true_eq_false, not_false_eq_true, Nat.not_lt_zero, zq_on_lt, zq_os, false_or, or_false, or_self, Bool.false_eq_true, p1, p2, p3, p4, p5, p6, p7, p8, p9, p10, p11, p12, p13, p14, p15, p16, p17, p18, zi_1, zi_2, zi_3, zi_4, zi_5, zi_6, zi_7, zi_8, zi_9, zi_10, zi_11, zi_12, zi_14, zi_15, zi_16, zi_17, zi_18, zi_f0, zi_f1, zi_f11, zi_f15, zi_u1, zi_u2, zi_u3, zi_u4, zi_u5, zi_u6, zi_u7, zi_u8, zi_u9, zi_u10, zi_u11, zi_u12, zi_u14, zi_u15, zi_u16, zi_u17, zi_u18, zi_v0, zi_v1, zi_v11, zi_v15, h1, c3, c2]
    · have e1 : (∃ j, i + 1 ≤ j ∧ j < S 0 11 ∧ S 10 j = 2 ∧ S 9 (S 11 j) + 8 = x) ↔ ∃ j, i ≤ j ∧ j < S 0 11 ∧ S 10 j = 2 ∧ S 9 (S 11 j) + 8 = x := by
        constructor
        · rintro ⟨j, a1, a2⟩; exact ⟨j, by omega, a2⟩
        · rintro ⟨j, a1, a2, a3⟩
          refine ⟨j, ?_, a2, a3⟩
          by_cases hj : j = i
          · rw [hj] at a3; exact absurd a3 c1
          · omega
      rw [zq_b_congr e1] at ih
      by_cases c2 : S 10 i = 2
      · have c3 : ¬ nI (S 9 (S 11 i)) = nI x - nI 8 := fun q => c1 ⟨c2, (zr_sub8 _ b3 x hx).mp q⟩
        obtain ⟨s0, t1, n1, t2, n2, t3, n3, t4, n4, t5, n5, t6, n6, t7, n7, t8, n8, t9, n9, t10, n10, t11, n11, t12, n12, t13, n13, t14, n14, t15, n15, t16, n16, t17, n17, t18, n18, p1, p2, p3, p4, p5, p6, p7, p8, p9, p10, p11, p12, p13, p14, p15, p16, p17, p18⟩ := id hM
        rw [q_M_isAdded_2]
        simp (disch := first | assumption | omega | exact Nat.le_of_ble_eq_true rfl) only [q_M_isAdded_0, q_M_isAdded_1, q_M_isAdded_3, q_M_isAdded_3n, q_M_isAdded_4, q_M_isAdded_7, q_M_isAdded_10, q_M_isAdded_10n, q_M_isAdded_11, q_M_isAdded_14, q_M_isAdded_15, q_M_isAdded_16, q_M_isAdded_17, q_M_isAdded_20, q_M_isAdded_20n, q_M_isAdded_21, q_M_isAdded_24, q_M_isAdded_24n, q_M_isAdded_25, q_M_isAdded_28, q_M_isAdded_29, q_M_isAdded_30, q_M_isAdded_31, q_M_isAdded_32, q_M_isAdded_34, q_M_isAdded_35, q_M_isAdded_38, q_M_isAdded_39_0, q_M_isAdded_39_1, q_M_isAdded_39_b, q_M_isAdded_40, q_M_isAdded_43, q_M_isAdded_46, q_M_isAdded_47_0, q_M_isAdded_47_1, q_M_isAdded_47_b, Option.bind_some, Option.toList_some, Option.toList_none, List.cons_append, List.nil_append, zq_rf_some, zq_rf_none, ↓reduceIte, zq_lt, zq_le, zq_eq, nI_add, zq_up_s, zq_up_o, zq_up_k, zq_b_eq0, Nat.reduceEqDiff, Nat.reduceLeDiff, Nat.reduceLT, Nat.reduceAdd, not_true_eq_false, not_false_eq_true, Nat.not_lt_zero, zq_on_lt, zq_os, false_or, or_false, or_self, Bool.false_eq_true, p1, p2, p3, p4, p5, p6, p7, p8, p9, p10, p11, p12, p13, p14, p15, p16, p17, p18, zi_1, zi_2, zi_3, zi_4, zi_5, zi_6, zi_7, zi_8, zi_9, zi_10, zi_11, zi_12, zi_14, zi_15, zi_16, zi_17, zi_18, zi_f0, zi_f1, zi_f11, zi_f15, zi_u1, zi_u2, zi_u3, zi_u4, zi_u5, zi_u6, zi_u7, zi_u8, zi_u9, zi_u10, zi_u11, zi_u12, zi_u14, zi_u15, zi_u16, zi_u17, zi_u18, zi_v0, zi_v1, zi_v11, zi_v15, h1, c2, c3, ih]
      · obtain ⟨s0, t1, n1, t2, n2, t3, n3, t4, n4, t5, n5, t6, n6, t7, n7, t8, n8, t9, n9, t10, n10, t11, n11, t12, n12, t13, n13, t14, n14, t15, n15, t16, n16, t17, n17, t18, n18, p1, p2, p3, p4, p5, p6, p7, p8, p9, p10, p11, p12, p13, p14, p15, p16, p17, p18⟩ := id hM
        rw [q_M_isAdded_2]
        simp (disch := first | assumption | omega | exact Nat.le_of_ble_eq_true rfl) only [q_M_isAdded_0, q_M_isAdded_1, q_M_isAdded_3, q_M_isAdded_3n, q_M_isAdded_4, q_M_isAdded_7, q_M_isAdded_10, q_M_isAdded_10n, q_M_isAdded_11, q_M_isAdded_14, q_M_isAdded_15, q_M_isAdded_16, q_M_isAdded_17, q_M_isAdded_20, q_M_isAdded_20n, q_M_isAdded_21, q_M_isAdded_24, q_M_isAdded_24n, q_M_isAdded_25, q_M_isAdded_28, q_M_isAdded_29, q_M_isAdded_30, q_M_isAdded_31, q_M_isAdded_32, q_M_isAdded_34, q_M_isAdded_35, q_M_isAdded_38, q_M_isAdded_39_0, q_M_isAdded_39_1, q_M_isAdded_39_b, q_M_isAdded_40, q_M_isAdded_43, q_M_isAdded_46, q_M_isAdded_47_0, q_M_isAdded_47_1, q_M_isAdded_47_b, Option.bind_some, Option.toList_some, Option.toList_none, List.cons_append, List.nil_append, zq_rf_some, zq_rf_none, ↓reduceIte, zq_lt, zq_le, zq_eq, nI_add, zq_up_s, zq_up_o, zq_up_k, zq_b_eq0, Nat.reduceEqDiff, Nat.reduceLeDiff, Nat.reduceLT, Nat.reduceAdd, not_true_eq_false, not_false_eq_true, Nat.not_lt_zero, zq_on_lt, zq_os, false_or, or_false, or_self, Bool.false_eq_true, p1, p2, p3, p4, p5, p6, p7, p8, p9, p10, p11, p12, p13, p14, p15, p16, p17, p18, zi_1, zi_2, zi_3, zi_4, zi_5, zi_6, zi_7, zi_8, zi_9, zi_10, zi_11, zi_12, zi_14, zi_15, zi_16, zi_17, zi_18, zi_f0, zi_f1, zi_f11, zi_f15, zi_u1, zi_u2, zi_u3, zi_u4, zi_u5, zi_u6, zi_u7, zi_u8, zi_u9, zi_u10, zi_u11, zi_u12, zi_u14, zi_u15, zi_u16, zi_u17, zi_u18, zi_v0, zi_v1, zi_v11, zi_v15, h1, c2, ih]
theorem zr_ad_iff {S : Nat → Nat → Nat} {x : Nat} : (∃ j, 0 ≤ j ∧ j < S 0 11 ∧ S 10 j = 2 ∧ S 9 (S 11 j) + 8 = x) ↔ zr_ad S x = true := by
  unfold zr_ad
  rw [List.any_eq_true]
  simp only [List.mem_range, Bool.and_eq_true, decide_eq_true_eq]
  constructor
  · rintro ⟨j, -, a, b⟩; exact ⟨j, a, b⟩
  · rintro ⟨j, a, b⟩; exact ⟨j, Nat.zero_le _, a, b⟩
theorem m_M_isAdded {d nx kx r x : Nat} {sh : zq_S} {P : zq_P} {S : Nat → Nat → Nat} {I0 : zq_I} (hM : zr_lay r sh P) (hS : zr_ok S) (hx : x < 16) : zq_C d 91 [.ref r, .int (nI x)] sh (zi r S I0) P nx kx = some (some (.int (zq_b (zr_ad S x = true))), sh, zi r S I0, P, nx, kx) := by
  have h := m_M_isAdded_go (d := d) (nx := nx) (kx := kx) (I0 := I0) hM hS hx (S 0 11) 0 (Nat.zero_add _)
  rw [zq_b_congr zr_ad_iff] at h
  simp (disch := first | assumption | omega | exact Nat.le_of_ble_eq_true rfl) only [q_M_isAdded, q_M_isAdded_0, q_M_isAdded_1, q_M_isAdded_3, q_M_isAdded_3n, q_M_isAdded_4, q_M_isAdded_7, q_M_isAdded_10, q_M_isAdded_10n, q_M_isAdded_11, q_M_isAdded_14, q_M_isAdded_15, q_M_isAdded_16, q_M_isAdded_17, q_M_isAdded_20, q_M_isAdded_20n, q_M_isAdded_21, q_M_isAdded_24, q_M_isAdded_24n, q_M_isAdded_25, q_M_isAdded_28, q_M_isAdded_29, q_M_isAdded_30, q_M_isAdded_31, q_M_isAdded_32, q_M_isAdded_34, q_M_isAdded_35, q_M_isAdded_38, q_M_isAdded_39_0, q_M_isAdded_39_1, q_M_isAdded_39_b, q_M_isAdded_40, q_M_isAdded_43, q_M_isAdded_46, q_M_isAdded_47_0, q_M_isAdded_47_1, q_M_isAdded_47_b, h]
def zr_sd (S : Nat → Nat → Nat) (w u : Nat) : Nat → Nat → Nat := zq_up (zq_up (zq_up S 13 (S 0 15) w) 14 (S 0 15) u) 0 15 (S 0 15 + 1)
theorem m_M_send {d nx kx r w u : Nat} {sh : zq_S} {P : zq_P} {S : Nat → Nat → Nat} {I0 : zq_I} (hM : zr_lay r sh P) (hn : S 0 15 < 640) (hw : w < 1000) : zq_C d 92 [.ref r, .int (nI w), .int (nI u)] sh (zi r S I0) P nx kx = some (none, sh, zi r (zr_sd S w u) I0, P, nx, kx) := by
  obtain ⟨s0, t1, n1, t2, n2, t3, n3, t4, n4, t5, n5, t6, n6, t7, n7, t8, n8, t9, n9, t10, n10, t11, n11, t12, n12, t13, n13, t14, n14, t15, n15, t16, n16, t17, n17, t18, n18, p1, p2, p3, p4, p5, p6, p7, p8, p9, p10, p11, p12, p13, p14, p15, p16, p17, p18⟩ := id hM
  simp (disch := first | assumption | omega | exact Nat.le_of_ble_eq_true rfl) only [q_M_send, q_M_send_0, q_M_send_0n, q_M_send_1, q_M_send_4, q_M_send_4n, q_M_send_5, q_M_send_8, q_M_send_9, q_M_send_10, q_M_send_10n, q_M_send_11, q_M_send_14, q_M_send_14n, q_M_send_15, q_M_send_18, q_M_send_19, q_M_send_20, q_M_send_20n, q_M_send_21, q_M_send_21i, q_M_send_22, q_M_send_25, q_M_send_26, q_M_send_27, q_M_send_30, Option.bind_some, Option.toList_some, Option.toList_none, List.cons_append, List.nil_append, zq_rf_some, zq_rf_none, ↓reduceIte, zq_lt, zq_le, zq_eq, nI_add, zq_up_s, zq_up_o, zq_up_k, zq_b_eq0, Nat.reduceEqDiff, Nat.reduceLeDiff, Nat.reduceLT, Nat.reduceAdd, not_true_eq_false, not_false_eq_true, Nat.not_lt_zero, zq_on_lt, zq_os, false_or, or_false, or_self, Bool.false_eq_true, p1, p2, p3, p4, p5, p6, p7, p8, p9, p10, p11, p12, p13, p14, p15, p16, p17, p18, zi_1, zi_2, zi_3, zi_4, zi_5, zi_6, zi_7, zi_8, zi_9, zi_10, zi_11, zi_12, zi_14, zi_15, zi_16, zi_17, zi_18, zi_f0, zi_f1, zi_f11, zi_f15, zi_u1, zi_u2, zi_u3, zi_u4, zi_u5, zi_u6, zi_u7, zi_u8, zi_u9, zi_u10, zi_u11, zi_u12, zi_u14, zi_u15, zi_u16, zi_u17, zi_u18, zi_v0, zi_v1, zi_v11, zi_v15, zi_u13, zr_sd]
theorem m_M_sendn {d nx kx r w u : Nat} {sh : zq_S} {P : zq_P} {S : Nat → Nat → Nat} {I0 : zq_I} (hM : zr_lay r sh P) (hn : S 0 15 < 640) : zq_C d 92 [.ref r, .int (-(nI w)), .int (nI u)] sh (zi r S I0) P nx kx = some (none, sh, zi r (zr_sd S (1000 + w) u) I0, P, nx, kx) := by
  obtain ⟨s0, t1, n1, t2, n2, t3, n3, t4, n4, t5, n5, t6, n6, t7, n7, t8, n8, t9, n9, t10, n10, t11, n11, t12, n12, t13, n13, t14, n14, t15, n15, t16, n16, t17, n17, t18, n18, p1, p2, p3, p4, p5, p6, p7, p8, p9, p10, p11, p12, p13, p14, p15, p16, p17, p18⟩ := id hM
  simp (disch := first | assumption | omega | exact Nat.le_of_ble_eq_true rfl) only [q_M_send, q_M_send_0, q_M_send_0n, q_M_send_1, q_M_send_4, q_M_send_4n, q_M_send_5, q_M_send_8, q_M_send_9, q_M_send_10, q_M_send_10n, q_M_send_11, q_M_send_14, q_M_send_14n, q_M_send_15, q_M_send_18, q_M_send_19, q_M_send_20, q_M_send_20n, q_M_send_21, q_M_send_21i, q_M_send_22, q_M_send_25, q_M_send_26, q_M_send_27, q_M_send_30, Option.bind_some, Option.toList_some, Option.toList_none, List.cons_append, List.nil_append, zq_rf_some, zq_rf_none, ↓reduceIte, zq_lt, zq_le, zq_eq, nI_add, zq_up_s, zq_up_o, zq_up_k, zq_b_eq0, Nat.reduceEqDiff, Nat.reduceLeDiff, Nat.reduceLT, Nat.reduceAdd, not_true_eq_false, not_false_eq_true, Nat.not_lt_zero, zq_on_lt, zq_os, false_or, or_false, or_self, Bool.false_eq_true, p1, p2, p3, p4, p5, p6, p7, p8, p9, p10, p11, p12, p13, p14, p15, p16, p17, p18, zi_1, zi_2, zi_3, zi_4, zi_5, zi_6, zi_7, zi_8, zi_9, zi_10, zi_11, zi_12, zi_14, zi_15, zi_16, zi_17, zi_18, zi_f0, zi_f1, zi_f11, zi_f15, zi_u1, zi_u2, zi_u3, zi_u4, zi_u5, zi_u6, zi_u7, zi_u8, zi_u9, zi_u10, zi_u11, zi_u12, zi_u14, zi_u15, zi_u16, zi_u17, zi_u18, zi_v0, zi_v1, zi_v11, zi_v15, zi_u13n, zr_sd]
def zr_sm : (Nat → Nat → Nat) → List (Nat × Nat) → (Nat → Nat → Nat)
  | S, [] => S
  | S, q :: ms => zr_sm (zr_sd S q.1 q.2) ms
theorem zr_sd_o {S : Nat → Nat → Nat} {w u k j : Nat} (h13 : k ≠ 13) (h14 : k ≠ 14) (h0 : k ≠ 0 ∨ j ≠ 15) : zr_sd S w u k j = S k j := by
  unfold zr_sd
  rw [show zq_up (zq_up (zq_up S 13 (S 0 15) w) 14 (S 0 15) u) 0 15 (S 0 15 + 1) k j = zq_up (zq_up S 13 (S 0 15) w) 14 (S 0 15) u k j from h0.elim (fun h => zq_up_o h) (fun h => zq_up_k h), zq_up_o h14, zq_up_o h13]
theorem zr_sd_n {S : Nat → Nat → Nat} {w u : Nat} : zr_sd S w u 0 15 = S 0 15 + 1 := zq_up_s
theorem zr_sm_o {k j : Nat} (h13 : k ≠ 13) (h14 : k ≠ 14) (h0 : k ≠ 0 ∨ j ≠ 15) : ∀ (ms : List (Nat × Nat)) (S : Nat → Nat → Nat), zr_sm S ms k j = S k j
  | [], S => rfl
  | q :: ms, S => by
    unfold zr_sm
    rw [zr_sm_o h13 h14 h0 ms, zr_sd_o h13 h14 h0]
theorem zr_sm_n : ∀ (ms : List (Nat × Nat)) (S : Nat → Nat → Nat), zr_sm S ms 0 15 = S 0 15 + ms.length
  | [], S => rfl
  | q :: ms, S => by
    unfold zr_sm
    rw [zr_sm_n ms, zr_sd_n, List.length_cons]
    omega
theorem zr_sm_app : ∀ (ms ns : List (Nat × Nat)) (S : Nat → Nat → Nat), zr_sm S (ms ++ ns) = zr_sm (zr_sm S ms) ns
  | [], ns, S => rfl
  | q :: ms, ns, S => by
    show zr_sm (zr_sd S q.1 q.2) (ms ++ ns) = _
    rw [zr_sm_app ms ns]
    rfl
theorem zr_ok.sd {S : Nat → Nat → Nat} (h : zr_ok S) {w u : Nat} (hw : w < 65536) (hu : u < 65536) (hn : S 0 15 < 640) : zr_ok (zr_sd S w u) :=
  h.same (((h.1.up hw).up hu).up (by omega)) (zr_sd_o (by decide) (by decide) (Or.inr (by decide))) (fun p => by rw [zr_sd_o (by decide) (by decide) (Or.inl (by decide))]; exact h.2.2.1 p) (fun i => zr_sd_o (by decide) (by decide) (Or.inl (by decide))) (fun i => zr_sd_o (by decide) (by decide) (Or.inl (by decide)))
theorem zr_ok.sm : ∀ (ms : List (Nat × Nat)) (S : Nat → Nat → Nat), zr_ok S → (∀ q ∈ ms, q.1 < 65536 ∧ q.2 < 65536) → S 0 15 + ms.length ≤ 640 → zr_ok (zr_sm S ms)
  | [], S, h, hm, hn => h
  | q :: ms, S, h, hm, hn => by
    rw [List.length_cons] at hn
    exact zr_ok.sm ms _ (h.sd (hm q List.mem_cons_self).1 (hm q List.mem_cons_self).2 (by omega)) (fun x hx => hm x (List.mem_cons_of_mem _ hx)) (by rw [zr_sd_n]; omega)
/-- alike but for the reference's scratch rows -/
def zr_eq (S S' : Nat → Nat → Nat) : Prop := ∀ k j, k ≠ 17 → k ≠ 18 → S' k j = S k j
theorem zr_eq.rf {S : Nat → Nat → Nat} : zr_eq S S := fun _ _ _ _ => rfl
theorem zr_eq.tr {S T V : Nat → Nat → Nat} (h : zr_eq S T) (g : zr_eq T V) : zr_eq S V := fun k j a b => (g k j a b).trans (h k j a b)
theorem zr_eq.up {S T : Nat → Nat → Nat} (h : zr_eq S T) (k j v : Nat) : zr_eq (zq_up S k j v) (zq_up T k j v) := by
  intro a b h1 h2
  unfold zq_up
  split
  · rfl
  · exact h a b h1 h2
theorem zr_eq.sd {S T : Nat → Nat → Nat} (h : zr_eq S T) (w u : Nat) : zr_eq (zr_sd S w u) (zr_sd T w u) := by
  unfold zr_sd
  rw [h 0 15 (by decide) (by decide)]
  exact ((h.up _ _ _).up _ _ _).up _ _ _
theorem zr_eq.sm : ∀ (ms : List (Nat × Nat)) {S T : Nat → Nat → Nat}, zr_eq S T → zr_eq (zr_sm S ms) (zr_sm T ms)
  | [], S, T, h => h
  | q :: ms, S, T, h => zr_eq.sm ms (h.sd q.1 q.2)
theorem zr_eq.ok {S T : Nat → Nat → Nat} (h : zr_eq S T) (hS : zr_ok S) (hb : zr_bd T) : zr_ok T :=
  hS.same hb (h _ _ (by decide) (by decide)) (fun p => by rw [h _ _ (by decide) (by decide)]; exact hS.2.2.1 p) (fun i => h _ _ (by decide) (by decide)) (fun i => h _ _ (by decide) (by decide))
theorem zr_eq.ad {S T : Nat → Nat → Nat} (h : zr_eq S T) (x : Nat) : zr_ad T x = zr_ad S x := by
  unfold zr_ad
  rw [h 0 11 (by decide) (by decide)]
  congr 1
  funext i
  rw [h 10 i (by decide) (by decide), h 11 i (by decide) (by decide), h 9 _ (by decide) (by decide)]
theorem zr_sd_ad {S : Nat → Nat → Nat} {w u : Nat} (x : Nat) : zr_ad (zr_sd S w u) x = zr_ad S x := by
  unfold zr_ad
  rw [zr_sd_o (by decide) (by decide) (Or.inr (by decide))]
  simp only [zr_sd_o (k := 10) (by decide) (by decide) (Or.inl (by decide)), zr_sd_o (k := 11) (by decide) (by decide) (Or.inl (by decide)), zr_sd_o (k := 9) (by decide) (by decide) (Or.inl (by decide))]
/-- the messages of one node of the path -/
def zr_lm (K : Nat → Nat) (ad : Nat → Bool) (k : Nat) (xs : List Nat) : List (Nat × Nat) := (xs.filter (fun x => !ad x)).map (fun x => (k, K x))
theorem m_M_sendPath_in {d nx kx r k p n : Nat} {sh : zq_S} {P : zq_P} {I0 : zq_I} (hM : zr_lay r sh P) {v1 v2 : Option Value} (hk : k < 900) (hp : p < 16) (hn : n ≤ 16) (K : Nat → Nat) (ad : Nat → Bool) : ∀ (ys : List Nat) (i : Nat) (S : Nat → Nat → Nat), zr_ok S → (∀ x, x < 16 → S 1 (336 + x) = K x) → (∀ x, zr_ad S x = ad x) → (∀ y ∈ ys, y < 16) → (∀ j v, ys[j]? = some v → S 17 (i + j) = v) → i + ys.length = n → S 0 15 + ys.length ≤ 640 →
    zq_F (d + 1) 93 34 [some (.ref r), v1, v2, some (.int (nI k)), some (.int (nI p)), some (.int (nI n)), some (.int (nI i))] [] sh (zi r S I0) P nx kx = zq_F (d + 1) 93 12 [some (.ref r), v1, some (.int (nI p)), some (.int (nI k)), some (.int (nI (p / 2))), some (.int (nI n)), some (.int (nI n))] [] sh (zi r (zr_sm S (zr_lm K ad (k + 1) ys)) I0) P nx kx
  | [], i, S, hS, hK, ha, h16, hl, h, hm => by
    have h1 : n ≤ i := by simp at h; omega
    have h2 : i = n := by simp at h; omega
    subst h2
    have h20 := zq_20
    rw [q_M_sendPath_34]
    simp (disch := first | assumption | omega | exact Nat.le_of_ble_eq_true rfl) only [q_M_sendPath_36, q_M_sendPath_38, q_M_sendPath_41, q_M_sendPath_41n, q_M_sendPath_42, q_M_sendPath_42n, q_M_sendPath_43, q_M_sendPath_46, q_M_sendPath_48, q_M_sendPath_49, q_M_sendPath_52, q_M_sendPath_55, q_M_sendPath_55n, q_M_sendPath_56, q_M_sendPath_57, q_M_sendPath_58, q_M_sendPath_59, q_M_sendPath_59n, q_M_sendPath_60, q_M_sendPath_63, q_M_sendPath_66, q_M_sendPath_66n, q_M_sendPath_67, q_M_sendPath_70, q_M_sendPath_72, q_M_sendPath_73, q_M_sendPath_74, q_M_sendPath_75, q_M_sendPath_78, q_M_sendPath_81, q_M_sendPath_84, q_M_sendPath_86, q_M_sendPath_87, q_M_sendPath_89, q_M_sendPath_90, q_M_sendPath_91, q_M_sendPath_93, Option.bind_some, Option.toList_some, Option.toList_none, List.cons_append, List.nil_append, zq_rf_some, zq_rf_none, ↓reduceIte, zq_lt, zq_le, zq_eq, nI_add, zq_up_s, zq_up_o, zq_up_k, zq_b_eq0, Nat.reduceEqDiff, Nat.reduceLeDiff, Nat.reduceLT, Nat.reduceAdd, not_true_eq_false, not_false_eq_true, Nat.not_lt_zero, zq_on_lt, zq_os, false_or, or_false, or_self, Bool.false_eq_true, h1, zq_div2, zr_lm, List.filter_nil, List.map_nil, zr_sm]
  | y :: ys, i, S, hS, hK, ha, h16, hl, h, hm => by
    rw [List.length_cons] at h hm
    have h1 : ¬ n ≤ i := by omega
    have hy := h16 y List.mem_cons_self
    have e17 : S 17 i = y := by have := hl 0 y rfl; rwa [Nat.add_zero] at this
    have hl' : ∀ j v, ys[j]? = some v → S 17 (i + 1 + j) = v := fun j v hv => by
      have := hl (j + 1) v (by simpa using hv)
      rw [← this]; congr 1; omega
    have isA := m_M_isAdded (d := d) (nx := nx) (kx := kx) (I0 := I0) hM hS hy
    rw [ha y] at isA
    by_cases c1 : ad y = true
    · have e1 : zr_lm K ad (k + 1) (y :: ys) = zr_lm K ad (k + 1) ys := by simp [zr_lm, c1]
      rw [e1]
      have ih := m_M_sendPath_in (d := d) (nx := nx) (kx := kx) (I0 := I0) (v1 := v1) (v2 := v2) hM hk hp hn K ad ys (i + 1) S hS hK ha (fun x hx => h16 x (List.mem_cons_of_mem _ hx)) hl' (by omega) (by omega)
      obtain ⟨s0, t1, n1, t2, n2, t3, n3, t4, n4, t5, n5, t6, n6, t7, n7, t8, n8, t9, n9, t10, n10, t11, n11, t12, n12, t13, n13, t14, n14, t15, n15, t16, n16, t17, n17, t18, n18, p1, p2, p3, p4, p5, p6, p7, p8, p9, p10, p11, p12, p13, p14, p15, p16, p17, p18⟩ := id hM
      rw [q_M_sendPath_34]
      simp (disch := first | assumption | omega | exact Nat.le_of_ble_eq_true rfl) only [q_M_sendPath_36, q_M_sendPath_38, q_M_sendPath_41, q_M_sendPath_41n, q_M_sendPath_42, q_M_sendPath_42n, q_M_sendPath_43, q_M_sendPath_46, q_M_sendPath_48, q_M_sendPath_49, q_M_sendPath_52, q_M_sendPath_55, q_M_sendPath_55n, q_M_sendPath_56, q_M_sendPath_57, q_M_sendPath_58, q_M_sendPath_59, q_M_sendPath_59n, q_M_sendPath_60, q_M_sendPath_63, q_M_sendPath_66, q_M_sendPath_66n, q_M_sendPath_67, q_M_sendPath_70, q_M_sendPath_72, q_M_sendPath_73, q_M_sendPath_74, q_M_sendPath_75, q_M_sendPath_78, q_M_sendPath_81, q_M_sendPath_84, q_M_sendPath_86, q_M_sendPath_87, q_M_sendPath_89, q_M_sendPath_90, q_M_sendPath_91, q_M_sendPath_93, Option.bind_some, Option.toList_some, Option.toList_none, List.cons_append, List.nil_append, zq_rf_some, zq_rf_none, ↓reduceIte, zq_lt, zq_le, zq_eq, nI_add, zq_up_s, zq_up_o, zq_up_k, zq_b_eq0, Nat.reduceEqDiff, Nat.reduceLeDiff, Nat.reduceLT, Nat.reduceAdd, not_true_eq_false, not_false_eq_true, Nat.not_lt_zero, zq_on_lt, zq_os, false_or, or_false, or_self, Bool.false_eq_true, p1, p2, p3, p4, p5, p6, p7, p8, p9, p10, p11, p12, p13, p14, p15, p16, p17, p18, zi_1, zi_2, zi_3, zi_4, zi_5, zi_6, zi_7, zi_8, zi_9, zi_10, zi_11, zi_12, zi_14, zi_15, zi_16, zi_17, zi_18, zi_f0, zi_f1, zi_f11, zi_f15, zi_u1, zi_u2, zi_u3, zi_u4, zi_u5, zi_u6, zi_u7, zi_u8, zi_u9, zi_u10, zi_u11, zi_u12, zi_u14, zi_u15, zi_u16, zi_u17, zi_u18, zi_v0, zi_v1, zi_v11, zi_v15, h1, e17, isA, c1, ih]
    · have e1 : zr_lm K ad (k + 1) (y :: ys) = (k + 1, K y) :: zr_lm K ad (k + 1) ys := by simp [zr_lm, c1]
      rw [e1]
      have eK := hK y hy
      have bK : K y < 65536 := by rw [← eK]; exact hS.1 _ _
      have sd := m_M_send (d := d) (nx := nx) (kx := kx) (I0 := I0) (S := S) (u := K y) hM (w := k + 1) (by omega) (by omega)
      have ih := m_M_sendPath_in (d := d) (nx := nx) (kx := kx) (I0 := I0) (v1 := v1) (v2 := v2) hM hk hp hn K ad ys (i + 1) (zr_sd S (k + 1) (K y)) (hS.sd (by omega) bK (by omega)) (fun x hx => by rw [zr_sd_o (by decide) (by decide) (Or.inl (by decide))]; exact hK x hx) (fun x => by rw [zr_sd_ad]; exact ha x) (fun x hx => h16 x (List.mem_cons_of_mem _ hx)) (fun j v hv => by rw [zr_sd_o (by decide) (by decide) (Or.inl (by decide))]; exact hl' j v hv) (by omega) (by rw [zr_sd_n]; omega)
      obtain ⟨s0, t1, n1, t2, n2, t3, n3, t4, n4, t5, n5, t6, n6, t7, n7, t8, n8, t9, n9, t10, n10, t11, n11, t12, n12, t13, n13, t14, n14, t15, n15, t16, n16, t17, n17, t18, n18, p1, p2, p3, p4, p5, p6, p7, p8, p9, p10, p11, p12, p13, p14, p15, p16, p17, p18⟩ := id hM
      rw [q_M_sendPath_34]
      simp (disch := first | assumption | omega | exact Nat.le_of_ble_eq_true rfl) only [q_M_sendPath_36, q_M_sendPath_38, q_M_sendPath_41, q_M_sendPath_41n, q_M_sendPath_42, q_M_sendPath_42n, q_M_sendPath_43, q_M_sendPath_46, q_M_sendPath_48, q_M_sendPath_49, q_M_sendPath_52, q_M_sendPath_55, q_M_sendPath_55n, q_M_sendPath_56, q_M_sendPath_57, q_M_sendPath_58, q_M_sendPath_59, q_M_sendPath_59n, q_M_sendPath_60, q_M_sendPath_63, q_M_sendPath_66, q_M_sendPath_66n, q_M_sendPath_67, q_M_sendPath_70, q_M_sendPath_72, q_M_sendPath_73, q_M_sendPath_74, q_M_sendPath_75, q_M_sendPath_78, q_M_sendPath_81, q_M_sendPath_84, q_M_sendPath_86, q_M_sendPath_87, q_M_sendPath_89, q_M_sendPath_90, q_M_sendPath_91, q_M_sendPath_93, Option.bind_some, Option.toList_some, Option.toList_none, List.cons_append, List.nil_append, zq_rf_some, zq_rf_none, ↓reduceIte, zq_lt, zq_le, zq_eq, nI_add, zq_up_s, zq_up_o, zq_up_k, zq_b_eq0, Nat.reduceEqDiff, Nat.reduceLeDiff, Nat.reduceLT, Nat.reduceAdd, not_true_eq_false, not_false_eq_true, Nat.not_lt_zero, zq_on_lt, zq_os, false_or, or_false, or_self, Bool.false_eq_true, p1, p2, p3, p4, p5, p6, p7, p8, p9, p10, p11, p12, p13, p14, p15, p16, p17, p18, zi_1, zi_2, zi_3, zi_4, zi_5, zi_6, zi_7, zi_8, zi_9, zi_10, zi_11, zi_12, zi_14, zi_15, zi_16, zi_17, zi_18, zi_f0, zi_f1, zi_f11, zi_f15, zi_u1, zi_u2, zi_u3, zi_u4, zi_u5, zi_u6, zi_u7, zi_u8, zi_u9, zi_u10, zi_u11, zi_u12, zi_u14, zi_u15, zi_u16, zi_u17, zi_u18, zi_v0, zi_v1, zi_v11, zi_v15, h1, e17, isA, c1, eK, sd, ih, zr_sm]
def zr_pm (K U : Nat → Nat) (ad : Nat → Bool) : Nat → Nat → Nat → Nat → List (Nat × Nat)
  | 0, _, _, _ => []
  | c + 1, b, p, k => if p = 0 then [] else zr_lm K ad (k + 2) (zr_re K U (b ^^^ 1)) ++ zr_pm K U ad c p (p / 2) (k + 1)
theorem zr_xor1 : ∀ b, b < 16 → 2 ≤ b → 1 ≤ b ^^^ 1 ∧ b ^^^ 1 < 16 := by decide
theorem zr_ob_len {u : Nat} : ∀ (c l : Nat), (zr_ob u c l).length ≤ c
  | 0, l => Nat.le_refl _
  | c + 1, l => by
    have := zr_ob_len (u := u) c (l + 1)
    unfold zr_ob
    split
    · omega
    · rw [List.length_cons]; omega
theorem zr_rl_lt {K U : Nat → Nat} : ∀ (c m : Nat), m < 16 → ∀ x ∈ zr_rl K U c m, x < 16
  | 0, m, hm, x, hx => by cases hx
  | c + 1, m, hm, x, hx => by
    unfold zr_rl at hx
    split at hx
    · split at hx
      · rcases List.mem_append.mp hx with h | h
        · exact zr_rl_lt c _ (by omega) x h
        · exact zr_rl_lt c _ (by omega) x h
      · cases hx
    · rcases List.mem_cons.mp hx with rfl | h
      · exact hm
      · exact zr_ob_lt 8 0 (by decide) x h
theorem zr_re_lt {K U : Nat → Nat} {m : Nat} (hm : m < 16) : ∀ x ∈ zr_re K U m, x < 16 := zr_rl_lt _ _ hm
theorem zr_lm_len {K : Nat → Nat} {ad : Nat → Bool} {k : Nat} {xs : List Nat} : (zr_lm K ad k xs).length ≤ xs.length := by
  unfold zr_lm
  rw [List.length_map]
  exact List.length_filter_le _ _
theorem m_M_sendPath_out {d nx kx r : Nat} {sh : zq_S} {P : zq_P} {I0 : zq_I} (hM : zr_lay r sh P) {v1 : Option Value} (K U : Nat → Nat) (ad : Nat → Bool) (hre : ∀ m, 1 ≤ m → m < 16 → (zr_re K U m).length ≤ 16) : ∀ (c b p k : Nat) (S : Nat → Nat → Nat) (v5 v6 : Option Value), zr_ok S → (∀ x, x < 16 → S 1 (336 + x) = K x) → (∀ x, x < 16 → S 2 (336 + x) = U x) → (∀ x, zr_ad S x = ad x) → p < 2 ^ c → p < 8 → (p ≠ 0 → 2 ≤ b ∧ b < 16) → k + c < 900 → S 0 15 + 16 * c ≤ 640 →
    ∃ S', zq_F (d + 2) 93 12 [some (.ref r), v1, some (.int (nI b)), some (.int (nI k)), some (.int (nI p)), v5, v6] [] sh (zi r S I0) P nx kx = some (none, sh, zi r S' I0, P, nx, kx) ∧ zr_eq (zr_sm S (zr_pm K U ad c b p k)) S' ∧ zr_bd S'
  | 0, b, p, k, S, v5, v6, hS, hK, hU, ha, h1, h2, h3, h4, h5 => by
    have h0 : p = 0 := by omega
    subst h0
    refine ⟨S, ?_, zr_eq.rf, hS.1⟩
    rw [q_M_sendPath_12]
    simp (disch := first | assumption | omega | exact Nat.le_of_ble_eq_true rfl) only [q_M_sendPath_0, q_M_sendPath_1, q_M_sendPath_2, q_M_sendPath_2n, q_M_sendPath_3, q_M_sendPath_6, q_M_sendPath_7, q_M_sendPath_8, q_M_sendPath_9, q_M_sendPath_10, q_M_sendPath_14, q_M_sendPath_17, q_M_sendPath_20, q_M_sendPath_20n, q_M_sendPath_21, q_M_sendPath_23, q_M_sendPath_24, q_M_sendPath_25, q_M_sendPath_26, q_M_sendPath_29, q_M_sendPath_31, q_M_sendPath_32, q_M_sendPath_36, q_M_sendPath_38, q_M_sendPath_41, q_M_sendPath_41n, q_M_sendPath_42, q_M_sendPath_42n, q_M_sendPath_43, q_M_sendPath_46, q_M_sendPath_48, q_M_sendPath_49, q_M_sendPath_52, q_M_sendPath_55, q_M_sendPath_55n, q_M_sendPath_56, q_M_sendPath_57, q_M_sendPath_58, q_M_sendPath_59, q_M_sendPath_59n, q_M_sendPath_60, q_M_sendPath_63, q_M_sendPath_66, q_M_sendPath_66n, q_M_sendPath_67, q_M_sendPath_70, q_M_sendPath_72, q_M_sendPath_73, q_M_sendPath_74, q_M_sendPath_75, q_M_sendPath_78, q_M_sendPath_81, q_M_sendPath_84, q_M_sendPath_86, q_M_sendPath_87, q_M_sendPath_89, q_M_sendPath_90, q_M_sendPath_91, q_M_sendPath_93, q_M_sendPath_96, Option.bind_some, Option.toList_some, Option.toList_none, List.cons_append, List.nil_append, zq_rf_some, zq_rf_none, ↓reduceIte, zq_lt, zq_le, zq_eq, nI_add, zq_up_s, zq_up_o, zq_up_k, zq_b_eq0, Nat.reduceEqDiff, Nat.reduceLeDiff, Nat.reduceLT, Nat.reduceAdd, not_true_eq_false, not_false_eq_true, Nat.not_lt_zero, zq_on_lt, zq_os, false_or, or_false, or_self, Bool.false_eq_true, Nat.le_refl]
  | c + 1, b, p, k, S, v5, v6, hS, hK, hU, ha, h1, h2, h3, h4, h5 => by
    by_cases h0 : p = 0
    · subst h0
      refine ⟨S, ?_, zr_eq.rf, hS.1⟩
      rw [q_M_sendPath_12]
      simp (disch := first | assumption | omega | exact Nat.le_of_ble_eq_true rfl) only [q_M_sendPath_0, q_M_sendPath_1, q_M_sendPath_2, q_M_sendPath_2n, q_M_sendPath_3, q_M_sendPath_6, q_M_sendPath_7, q_M_sendPath_8, q_M_sendPath_9, q_M_sendPath_10, q_M_sendPath_14, q_M_sendPath_17, q_M_sendPath_20, q_M_sendPath_20n, q_M_sendPath_21, q_M_sendPath_23, q_M_sendPath_24, q_M_sendPath_25, q_M_sendPath_26, q_M_sendPath_29, q_M_sendPath_31, q_M_sendPath_32, q_M_sendPath_36, q_M_sendPath_38, q_M_sendPath_41, q_M_sendPath_41n, q_M_sendPath_42, q_M_sendPath_42n, q_M_sendPath_43, q_M_sendPath_46, q_M_sendPath_48, q_M_sendPath_49, q_M_sendPath_52, q_M_sendPath_55, q_M_sendPath_55n, q_M_sendPath_56, q_M_sendPath_57, q_M_sendPath_58, q_M_sendPath_59, q_M_sendPath_59n, q_M_sendPath_60, q_M_sendPath_63, q_M_sendPath_66, q_M_sendPath_66n, q_M_sendPath_67, q_M_sendPath_70, q_M_sendPath_72, q_M_sendPath_73, q_M_sendPath_74, q_M_sendPath_75, q_M_sendPath_78, q_M_sendPath_81, q_M_sendPath_84, q_M_sendPath_86, q_M_sendPath_87, q_M_sendPath_89, q_M_sendPath_90, q_M_sendPath_91, q_M_sendPath_93, q_M_sendPath_96, Option.bind_some, Option.toList_some, Option.toList_none, List.cons_append, List.nil_append, zq_rf_some, zq_rf_none, ↓reduceIte, zq_lt, zq_le, zq_eq, nI_add, zq_up_s, zq_up_o, zq_up_k, zq_b_eq0, Nat.reduceEqDiff, Nat.reduceLeDiff, Nat.reduceLT, Nat.reduceAdd, not_true_eq_false, not_false_eq_true, Nat.not_lt_zero, zq_on_lt, zq_os, false_or, or_false, or_self, Bool.false_eq_true, Nat.le_refl]
    · obtain ⟨hb2, hb16⟩ := h3 h0
      obtain ⟨x1, x2⟩ := zr_xor1 b hb16 hb2
      have hlen := hre _ x1 x2
      obtain ⟨S1, g1, g2, g3, g4⟩ := m_M_resolve (d := d + 1) (nx := nx) (kx := kx) (I0 := I0) (S := S) hM hS.1 (row := 21) (node := b ^^^ 1) (by decide) x1 x2 K U (fun m hm => hK m hm) (fun m hm => hU m hm) hlen
      have q1 : zr_eq S S1 := g2
      have hS1 := q1.ok hS g4
      have hin := m_M_sendPath_in (d := d + 1) (nx := nx) (kx := kx) (I0 := I0) (v1 := v1) (v2 := some (.int (nI b))) hM (k := k + 1) (p := p) (n := (zr_re K U (b ^^^ 1)).length) (by omega) (by omega) hlen K ad (zr_re K U (b ^^^ 1)) 0 S1 hS1 (fun x hx => by rw [q1 _ _ (by decide) (by decide)]; exact hK x hx) (fun x => by rw [q1.ad]; exact ha x) (zr_re_lt x2) (fun j v hv => by rw [Nat.zero_add]; exact g3 j v hv) (Nat.zero_add _) (by rw [q1 _ _ (by decide) (by decide)]; omega)
      have hml := zr_lm_len (K := K) (ad := ad) (k := k + 1 + 1) (xs := zr_re K U (b ^^^ 1))
      have hsm : zr_ok (zr_sm S1 (zr_lm K ad (k + 1 + 1) (zr_re K U (b ^^^ 1)))) := zr_ok.sm _ _ hS1 (fun q hq => by
        unfold zr_lm at hq
        obtain ⟨x, hx, rfl⟩ := List.mem_map.mp hq
        have hx16 := zr_re_lt x2 x (List.mem_filter.mp hx).1
        refine ⟨by show k + 1 + 1 < 65536; omega, ?_⟩
        show K x < 65536
        rw [← hK x hx16]
        exact hS.1 _ _) (by rw [q1 _ _ (by decide) (by decide)]; omega)
      obtain ⟨S', f1, f2, f3⟩ := m_M_sendPath_out (d := d) (nx := nx) (kx := kx) (I0 := I0) (v1 := v1) hM K U ad hre c p (p / 2) (k + 1) (zr_sm S1 (zr_lm K ad (k + 1 + 1) (zr_re K U (b ^^^ 1)))) (some (.int (nI (zr_re K U (b ^^^ 1)).length))) (some (.int (nI (zr_re K U (b ^^^ 1)).length))) hsm
        (fun x hx => by rw [zr_sm_o (by decide) (by decide) (Or.inl (by decide)), q1 _ _ (by decide) (by decide)]; exact hK x hx) (fun x hx => by rw [zr_sm_o (by decide) (by decide) (Or.inl (by decide)), q1 _ _ (by decide) (by decide)]; exact hU x hx)
        (fun x => by
          unfold zr_ad
          rw [zr_sm_o (by decide) (by decide) (Or.inr (by decide))]
          simp only [zr_sm_o (k := 10) (by decide) (by decide) (Or.inl (by decide)), zr_sm_o (k := 11) (by decide) (by decide) (Or.inl (by decide)), zr_sm_o (k := 9) (by decide) (by decide) (Or.inl (by decide))]
          exact (q1.ad x).trans (ha x)) (by rw [Nat.pow_succ] at h1; omega) (by omega) (fun _ => by omega) (by omega) (by rw [zr_sm_n, q1 _ _ (by decide) (by decide)]; omega)
      refine ⟨S', ?_, ?_, f3⟩
      · obtain ⟨s0, t1, n1, t2, n2, t3, n3, t4, n4, t5, n5, t6, n6, t7, n7, t8, n8, t9, n9, t10, n10, t11, n11, t12, n12, t13, n13, t14, n14, t15, n15, t16, n16, t17, n17, t18, n18, p1, p2, p3, p4, p5, p6, p7, p8, p9, p10, p11, p12, p13, p14, p15, p16, p17, p18⟩ := id hM
        have h4' : ¬ p ≤ 0 := by omega
        rw [q_M_sendPath_12]
        simp (disch := first | assumption | omega | exact Nat.le_of_ble_eq_true rfl) only [q_M_sendPath_0, q_M_sendPath_1, q_M_sendPath_2, q_M_sendPath_2n, q_M_sendPath_3, q_M_sendPath_6, q_M_sendPath_7, q_M_sendPath_8, q_M_sendPath_9, q_M_sendPath_10, q_M_sendPath_14, q_M_sendPath_17, q_M_sendPath_20, q_M_sendPath_20n, q_M_sendPath_21, q_M_sendPath_23, q_M_sendPath_24, q_M_sendPath_25, q_M_sendPath_26, q_M_sendPath_29, q_M_sendPath_31, q_M_sendPath_32, q_M_sendPath_36, q_M_sendPath_38, q_M_sendPath_41, q_M_sendPath_41n, q_M_sendPath_42, q_M_sendPath_42n, q_M_sendPath_43, q_M_sendPath_46, q_M_sendPath_48, q_M_sendPath_49, q_M_sendPath_52, q_M_sendPath_55, q_M_sendPath_55n, q_M_sendPath_56, q_M_sendPath_57, q_M_sendPath_58, q_M_sendPath_59, q_M_sendPath_59n, q_M_sendPath_60, q_M_sendPath_63, q_M_sendPath_66, q_M_sendPath_66n, q_M_sendPath_67, q_M_sendPath_70, q_M_sendPath_72, q_M_sendPath_73, q_M_sendPath_74, q_M_sendPath_75, q_M_sendPath_78, q_M_sendPath_81, q_M_sendPath_84, q_M_sendPath_86, q_M_sendPath_87, q_M_sendPath_89, q_M_sendPath_90, q_M_sendPath_91, q_M_sendPath_93, q_M_sendPath_96, Option.bind_some, Option.toList_some, Option.toList_none, List.cons_append, List.nil_append, zq_rf_some, zq_rf_none, ↓reduceIte, zq_lt, zq_le, zq_eq, nI_add, zq_up_s, zq_up_o, zq_up_k, zq_b_eq0, Nat.reduceEqDiff, Nat.reduceLeDiff, Nat.reduceLT, Nat.reduceAdd, not_true_eq_false, not_false_eq_true, Nat.not_lt_zero, zq_on_lt, zq_os, false_or, or_false, or_self, Bool.false_eq_true, h4', zq_xor, g1, hin, f1]
      · have : zr_pm K U ad (c + 1) b p k = zr_lm K ad (k + 2) (zr_re K U (b ^^^ 1)) ++ zr_pm K U ad c p (p / 2) (k + 1) := by
          conv => lhs; unfold zr_pm
          rw [if_neg h0]
        rw [this, zr_sm_app]
        exact (zr_eq.sm _ (zr_eq.sm _ q1)).tr f2
theorem m_M_sendPath {d nx kx r b : Nat} {sh : zq_S} {P : zq_P} {S : Nat → Nat → Nat} {I0 : zq_I} (hM : zr_lay r sh P) (hS : zr_ok S) (K U : Nat → Nat) (hK : ∀ x, x < 16 → S 1 (336 + x) = K x) (hU : ∀ x, x < 16 → S 2 (336 + x) = U x) (hre : ∀ m, 1 ≤ m → m < 16 → (zr_re K U m).length ≤ 16) (hb : 2 ≤ b) (hb2 : b < 16) (hk : S 0 1 < 800) (hm : S 0 15 + 48 ≤ 640) :
    ∃ S', zq_C (d + 2) 93 [.ref r, .int (nI b)] sh (zi r S I0) P nx kx = some (none, sh, zi r S' I0, P, nx, kx) ∧ zr_eq (zr_sm S (zr_pm K U (zr_ad S) 3 b (b / 2) (S 0 1))) S' ∧ zr_bd S' := by
  obtain ⟨S', f1, f2, f3⟩ := m_M_sendPath_out (d := d) (nx := nx) (kx := kx) (I0 := I0) (v1 := some (.int (nI b))) hM K U (zr_ad S) hre 3 b (b / 2) (S 0 1) S none none hS hK hU (fun x => rfl) (by omega) (by omega) (fun _ => ⟨hb, hb2⟩) (by omega) (by omega)
  refine ⟨S', ?_, f2, f3⟩
  have s0 := hM.1
  have h20 := zq_20
  simp (disch := first | assumption | omega | exact Nat.le_of_ble_eq_true rfl) only [q_M_sendPath, q_M_sendPath_0, q_M_sendPath_1, q_M_sendPath_2, q_M_sendPath_2n, q_M_sendPath_3, q_M_sendPath_6, q_M_sendPath_7, q_M_sendPath_8, q_M_sendPath_9, q_M_sendPath_10, q_M_sendPath_14, q_M_sendPath_17, q_M_sendPath_20, q_M_sendPath_20n, q_M_sendPath_21, q_M_sendPath_23, q_M_sendPath_24, q_M_sendPath_25, q_M_sendPath_26, q_M_sendPath_29, q_M_sendPath_31, q_M_sendPath_32, q_M_sendPath_36, q_M_sendPath_38, q_M_sendPath_41, q_M_sendPath_41n, q_M_sendPath_42, q_M_sendPath_42n, q_M_sendPath_43, q_M_sendPath_46, q_M_sendPath_48, q_M_sendPath_49, q_M_sendPath_52, q_M_sendPath_55, q_M_sendPath_55n, q_M_sendPath_56, q_M_sendPath_57, q_M_sendPath_58, q_M_sendPath_59, q_M_sendPath_59n, q_M_sendPath_60, q_M_sendPath_63, q_M_sendPath_66, q_M_sendPath_66n, q_M_sendPath_67, q_M_sendPath_70, q_M_sendPath_72, q_M_sendPath_73, q_M_sendPath_74, q_M_sendPath_75, q_M_sendPath_78, q_M_sendPath_81, q_M_sendPath_84, q_M_sendPath_86, q_M_sendPath_87, q_M_sendPath_89, q_M_sendPath_90, q_M_sendPath_91, q_M_sendPath_93, q_M_sendPath_96, Option.bind_some, Option.toList_some, Option.toList_none, List.cons_append, List.nil_append, zq_rf_some, zq_rf_none, ↓reduceIte, zq_lt, zq_le, zq_eq, nI_add, zq_up_s, zq_up_o, zq_up_k, zq_b_eq0, Nat.reduceEqDiff, Nat.reduceLeDiff, Nat.reduceLT, Nat.reduceAdd, not_true_eq_false, not_false_eq_true, Nat.not_lt_zero, zq_on_lt, zq_os, false_or, or_false, or_self, Bool.false_eq_true, zi_1, zi_2, zi_3, zi_4, zi_5, zi_6, zi_7, zi_8, zi_9, zi_10, zi_11, zi_12, zi_14, zi_15, zi_16, zi_17, zi_18, zi_f0, zi_f1, zi_f11, zi_f15, zi_u1, zi_u2, zi_u3, zi_u4, zi_u5, zi_u6, zi_u7, zi_u8, zi_u9, zi_u10, zi_u11, zi_u12, zi_u14, zi_u15, zi_u16, zi_u17, zi_u18, zi_v0, zi_v1, zi_v11, zi_v15, zq_div2, f1]
