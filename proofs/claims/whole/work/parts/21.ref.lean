/-! the reference's proposals -/
def zr_bd (S : Nat → Nat → Nat) : Prop := ∀ k j, S k j < 65536
theorem zr_bd.lt {S : Nat → Nat → Nat} (h : zr_bd S) (k j : Nat) : S k j < 2147483648 := Nat.lt_trans (h k j) (by decide)
theorem zr_bd.up {S : Nat → Nat → Nat} (h : zr_bd S) {k j v : Nat} (hv : v < 65536) : zr_bd (zq_up S k j v) := by
  intro a b
  unfold zq_up
  split
  · exact hv
  · exact h a b
theorem m_M_proposed {d nx kx r : Nat} {sh : zq_S} {P : zq_P} {S : Nat → Nat → Nat} {I0 : zq_I} (hM : zr_lay r sh P) {k w : Nat} (hk : k < 2147483648) (hw : w < 2147483648) (hn : S 0 11 ≤ 32) (hS : zr_bd S) : zq_C d 80 [.ref r, .int (nI k), .int (nI w)] sh (zi r S I0) P nx kx = some (some (.int (zq_o (zr_fi S k w))), sh, zi r S I0, P, nx, kx) := by
  simp (disch := first | assumption | omega | exact Nat.le_of_ble_eq_true rfl) only [q_M_proposed, q_M_proposed_0, q_M_proposed_1, q_M_proposed_3, q_M_proposed_3n, q_M_proposed_4, q_M_proposed_7, q_M_proposed_10, q_M_proposed_10n, q_M_proposed_11, q_M_proposed_14, q_M_proposed_15, q_M_proposed_16, q_M_proposed_17, q_M_proposed_20, q_M_proposed_20n, q_M_proposed_21, q_M_proposed_24, q_M_proposed_25, q_M_proposed_26, q_M_proposed_27, q_M_proposed_30, q_M_proposed_31, q_M_proposed_32, q_M_proposed_35, q_M_proposed_38, q_M_proposed_39, m_M_proposed_go hM hk hw hn hS.lt (S 0 11) 0 (Nat.zero_add _), zr_fi]
def zr_mn (S : Nat → Nat → Nat) (k : Nat) : Nat → Nat → Nat
  | 0, _ => 0
  | c + 1, i => (if S 10 i = k then 1 else 0) + zr_mn S k c (i + 1)
theorem m_M_many_go {d nx kx r : Nat} {sh : zq_S} {P : zq_P} {S : Nat → Nat → Nat} {I0 : zq_I} (hM : zr_lay r sh P) {k : Nat} (hk : k < 2147483648) (hn : S 0 11 ≤ 32) (hS : zr_bd S) : ∀ (c i a : Nat), i + c = S 0 11 → zq_F d 81 4 [some (.ref r), some (.int (nI k)), some (.int (nI a)), some (.int (nI i))] [] sh (zi r S I0) P nx kx = some (some (.int (nI (a + zr_mn S k c i))), sh, zi r S I0, P, nx, kx)
  | 0, i, a, h => by
    obtain ⟨s0, t1, n1, t2, n2, t3, n3, t4, n4, t5, n5, t6, n6, t7, n7, t8, n8, t9, n9, t10, n10, t11, n11, t12, n12, t13, n13, t14, n14, t15, n15, t16, n16, t17, n17, t18, n18, p1, p2, p3, p4, p5, p6, p7, p8, p9, p10, p11, p12, p13, p14, p15, p16, p17, p18⟩ := id hM
    have h1 : S 0 11 ≤ i := by omega
    simp (disch := first | assumption | omega | exact Nat.le_of_ble_eq_true rfl) only [q_M_many_4, q_M_many_0, q_M_many_1, q_M_many_2, q_M_many_3, q_M_many_5, q_M_many_5n, q_M_many_6, q_M_many_9, q_M_many_12, q_M_many_12n, q_M_many_13, q_M_many_16, q_M_many_17, q_M_many_18, q_M_many_19, q_M_many_22, q_M_many_25, q_M_many_28, q_M_many_31, q_M_many_32, Option.bind_some, Option.toList_some, Option.toList_none, List.cons_append, List.nil_append, zq_rf_some, zq_rf_none, ↓reduceIte, zq_lt, zq_le, zq_eq, nI_add, zq_up_s, zq_up_o, zq_up_k, zq_b_eq0, Nat.reduceEqDiff, Nat.reduceLeDiff, Nat.reduceLT, Nat.reduceAdd, not_true_eq_false, not_false_eq_true, Nat.not_lt_zero, zq_on_lt, zq_os, false_or, or_false, or_self, p1, p2, p3, p4, p5, p6, p7, p8, p9, p10, p11, p12, p13, p14, p15, p16, p17, p18, zi_1, zi_2, zi_3, zi_4, zi_5, zi_6, zi_7, zi_8, zi_9, zi_10, zi_11, zi_12, zi_14, zi_15, zi_16, zi_17, zi_18, zi_f0, zi_f1, zi_f11, zi_f15, zi_u1, zi_u2, zi_u3, zi_u4, zi_u5, zi_u6, zi_u7, zi_u8, zi_u9, zi_u10, zi_u11, zi_u12, zi_u14, zi_u15, zi_u16, zi_u17, zi_u18, zi_v0, zi_v1, zi_v11, zi_v15, h1, zr_mn, Nat.add_zero]
  | c + 1, i, a, h => by
    have ih := m_M_many_go (d := d) (nx := nx) (kx := kx) (I0 := I0) hM hk hn hS c (i + 1)
    obtain ⟨s0, t1, n1, t2, n2, t3, n3, t4, n4, t5, n5, t6, n6, t7, n7, t8, n8, t9, n9, t10, n10, t11, n11, t12, n12, t13, n13, t14, n14, t15, n15, t16, n16, t17, n17, t18, n18, p1, p2, p3, p4, p5, p6, p7, p8, p9, p10, p11, p12, p13, p14, p15, p16, p17, p18⟩ := id hM
    have h1 : ¬ S 0 11 ≤ i := by omega
    have g1 := hS.lt 10 i
    by_cases e1 : S 10 i = k
    · have ih := ih (a + 1) (by omega)
      simp (disch := first | assumption | omega | exact Nat.le_of_ble_eq_true rfl) only [q_M_many_4, q_M_many_0, q_M_many_1, q_M_many_2, q_M_many_3, q_M_many_5, q_M_many_5n, q_M_many_6, q_M_many_9, q_M_many_12, q_M_many_12n, q_M_many_13, q_M_many_16, q_M_many_17, q_M_many_18, q_M_many_19, q_M_many_22, q_M_many_25, q_M_many_28, q_M_many_31, q_M_many_32, Option.bind_some, Option.toList_some, Option.toList_none, List.cons_append, List.nil_append, zq_rf_some, zq_rf_none, ↓reduceIte, zq_lt, zq_le, zq_eq, nI_add, zq_up_s, zq_up_o, zq_up_k, zq_b_eq0, Nat.reduceEqDiff, Nat.reduceLeDiff, Nat.reduceLT, Nat.reduceAdd, not_true_eq_false, not_false_eq_true, Nat.not_lt_zero, zq_on_lt, zq_os, false_or, or_false, or_self, p1, p2, p3, p4, p5, p6, p7, p8, p9, p10, p11, p12, p13, p14, p15, p16, p17, p18, zi_1, zi_2, zi_3, zi_4, zi_5, zi_6, zi_7, zi_8, zi_9, zi_10, zi_11, zi_12, zi_14, zi_15, zi_16, zi_17, zi_18, zi_f0, zi_f1, zi_f11, zi_f15, zi_u1, zi_u2, zi_u3, zi_u4, zi_u5, zi_u6, zi_u7, zi_u8, zi_u9, zi_u10, zi_u11, zi_u12, zi_u14, zi_u15, zi_u16, zi_u17, zi_u18, zi_v0, zi_v1, zi_v11, zi_v15, h1, zr_mn, e1, not_true, ih, Nat.add_assoc]
    · have ih := ih a (by omega)
      simp (disch := first | assumption | omega | exact Nat.le_of_ble_eq_true rfl) only [q_M_many_4, q_M_many_0, q_M_many_1, q_M_many_2, q_M_many_3, q_M_many_5, q_M_many_5n, q_M_many_6, q_M_many_9, q_M_many_12, q_M_many_12n, q_M_many_13, q_M_many_16, q_M_many_17, q_M_many_18, q_M_many_19, q_M_many_22, q_M_many_25, q_M_many_28, q_M_many_31, q_M_many_32, Option.bind_some, Option.toList_some, Option.toList_none, List.cons_append, List.nil_append, zq_rf_some, zq_rf_none, ↓reduceIte, zq_lt, zq_le, zq_eq, nI_add, zq_up_s, zq_up_o, zq_up_k, zq_b_eq0, Nat.reduceEqDiff, Nat.reduceLeDiff, Nat.reduceLT, Nat.reduceAdd, not_true_eq_false, not_false_eq_true, Nat.not_lt_zero, zq_on_lt, zq_os, false_or, or_false, or_self, p1, p2, p3, p4, p5, p6, p7, p8, p9, p10, p11, p12, p13, p14, p15, p16, p17, p18, zi_1, zi_2, zi_3, zi_4, zi_5, zi_6, zi_7, zi_8, zi_9, zi_10, zi_11, zi_12, zi_14, zi_15, zi_16, zi_17, zi_18, zi_f0, zi_f1, zi_f11, zi_f15, zi_u1, zi_u2, zi_u3, zi_u4, zi_u5, zi_u6, zi_u7, zi_u8, zi_u9, zi_u10, zi_u11, zi_u12, zi_u14, zi_u15, zi_u16, zi_u17, zi_u18, zi_v0, zi_v1, zi_v11, zi_v15, h1, zr_mn, e1, not_false_eq_true, ih, Nat.zero_add]
theorem m_M_many {d nx kx r : Nat} {sh : zq_S} {P : zq_P} {S : Nat → Nat → Nat} {I0 : zq_I} (hM : zr_lay r sh P) {k : Nat} (hk : k < 2147483648) (hn : S 0 11 ≤ 32) (hS : zr_bd S) : zq_C d 81 [.ref r, .int (nI k)] sh (zi r S I0) P nx kx = some (some (.int (nI (zr_mn S k (S 0 11) 0))), sh, zi r S I0, P, nx, kx) := by
  have h := m_M_many_go (d := d) (nx := nx) (kx := kx) (I0 := I0) hM hk hn hS (S 0 11) 0 0 (Nat.zero_add _)
  rw [Nat.zero_add] at h
  simp (disch := first | assumption | omega | exact Nat.le_of_ble_eq_true rfl) only [q_M_many, q_M_many_0, q_M_many_1, q_M_many_2, q_M_many_3, q_M_many_5, q_M_many_5n, q_M_many_6, q_M_many_9, q_M_many_12, q_M_many_12n, q_M_many_13, q_M_many_16, q_M_many_17, q_M_many_18, q_M_many_19, q_M_many_22, q_M_many_25, q_M_many_28, q_M_many_31, q_M_many_32, h]
def zr_bl (S : Nat → Nat → Nat) (row : Nat) : Nat → Nat → Nat
  | 0, _ => 0
  | c + 1, l => (if S 1 (row * 16 + l) = 0 then 1 else 0) + zr_bl S row c (l + 1)
theorem m_M_blankLeaves_go {d nx kx r : Nat} {sh : zq_S} {P : zq_P} {S : Nat → Nat → Nat} {I0 : zq_I} (hM : zr_lay r sh P) {row : Nat} (hr : row < 22) (hS : zr_bd S) : ∀ (c l a : Nat), l + c = 16 → zq_F d 82 5 [some (.ref r), some (.int (nI row)), some (.int (nI a)), some (.int (nI l))] [] sh (zi r S I0) P nx kx = some (some (.int (nI (a + zr_bl S row c l))), sh, zi r S I0, P, nx, kx)
  | 0, l, a, h => by
    obtain ⟨s0, t1, n1, t2, n2, t3, n3, t4, n4, t5, n5, t6, n6, t7, n7, t8, n8, t9, n9, t10, n10, t11, n11, t12, n12, t13, n13, t14, n14, t15, n15, t16, n16, t17, n17, t18, n18, p1, p2, p3, p4, p5, p6, p7, p8, p9, p10, p11, p12, p13, p14, p15, p16, p17, p18⟩ := id hM
    have h1 : 16 ≤ l := by omega
    simp (disch := first | assumption | omega | exact Nat.le_of_ble_eq_true rfl) only [q_M_blankLeaves_5, q_M_blankLeaves_0, q_M_blankLeaves_1, q_M_blankLeaves_2, q_M_blankLeaves_4, q_M_blankLeaves_6, q_M_blankLeaves_8, q_M_blankLeaves_11, q_M_blankLeaves_11n, q_M_blankLeaves_12, q_M_blankLeaves_15, q_M_blankLeaves_16, q_M_blankLeaves_18, q_M_blankLeaves_19, q_M_blankLeaves_20, q_M_blankLeaves_21, q_M_blankLeaves_22, q_M_blankLeaves_25, q_M_blankLeaves_28, q_M_blankLeaves_31, q_M_blankLeaves_34, q_M_blankLeaves_35, Option.bind_some, Option.toList_some, Option.toList_none, List.cons_append, List.nil_append, zq_rf_some, zq_rf_none, ↓reduceIte, zq_lt, zq_le, zq_eq, nI_add, zq_up_s, zq_up_o, zq_up_k, zq_b_eq0, Nat.reduceEqDiff, Nat.reduceLeDiff, Nat.reduceLT, Nat.reduceAdd, not_true_eq_false, not_false_eq_true, Nat.not_lt_zero, zq_on_lt, zq_os, false_or, or_false, or_self, p1, p2, p3, p4, p5, p6, p7, p8, p9, p10, p11, p12, p13, p14, p15, p16, p17, p18, zi_1, zi_2, zi_3, zi_4, zi_5, zi_6, zi_7, zi_8, zi_9, zi_10, zi_11, zi_12, zi_14, zi_15, zi_16, zi_17, zi_18, zi_f0, zi_f1, zi_f11, zi_f15, zi_u1, zi_u2, zi_u3, zi_u4, zi_u5, zi_u6, zi_u7, zi_u8, zi_u9, zi_u10, zi_u11, zi_u12, zi_u14, zi_u15, zi_u16, zi_u17, zi_u18, zi_v0, zi_v1, zi_v11, zi_v15, h1, zr_bl, Nat.add_zero]
  | c + 1, l, a, h => by
    have ih := m_M_blankLeaves_go (d := d) (nx := nx) (kx := kx) (I0 := I0) hM hr hS c (l + 1)
    obtain ⟨s0, t1, n1, t2, n2, t3, n3, t4, n4, t5, n5, t6, n6, t7, n7, t8, n8, t9, n9, t10, n10, t11, n11, t12, n12, t13, n13, t14, n14, t15, n15, t16, n16, t17, n17, t18, n18, p1, p2, p3, p4, p5, p6, p7, p8, p9, p10, p11, p12, p13, p14, p15, p16, p17, p18⟩ := id hM
    have h1 : ¬ 16 ≤ l := by omega
    have g1 := hS.lt 1 (row * 16 + l)
    by_cases e1 : S 1 (row * 16 + l) = 0
    · have ih := ih (a + 1) (by omega)
      simp (disch := first | assumption | omega | exact Nat.le_of_ble_eq_true rfl) only [q_M_blankLeaves_5, q_M_blankLeaves_0, q_M_blankLeaves_1, q_M_blankLeaves_2, q_M_blankLeaves_4, q_M_blankLeaves_6, q_M_blankLeaves_8, q_M_blankLeaves_11, q_M_blankLeaves_11n, q_M_blankLeaves_12, q_M_blankLeaves_15, q_M_blankLeaves_16, q_M_blankLeaves_18, q_M_blankLeaves_19, q_M_blankLeaves_20, q_M_blankLeaves_21, q_M_blankLeaves_22, q_M_blankLeaves_25, q_M_blankLeaves_28, q_M_blankLeaves_31, q_M_blankLeaves_34, q_M_blankLeaves_35, Option.bind_some, Option.toList_some, Option.toList_none, List.cons_append, List.nil_append, zq_rf_some, zq_rf_none, ↓reduceIte, zq_lt, zq_le, zq_eq, nI_add, zq_up_s, zq_up_o, zq_up_k, zq_b_eq0, Nat.reduceEqDiff, Nat.reduceLeDiff, Nat.reduceLT, Nat.reduceAdd, not_true_eq_false, not_false_eq_true, Nat.not_lt_zero, zq_on_lt, zq_os, false_or, or_false, or_self, p1, p2, p3, p4, p5, p6, p7, p8, p9, p10, p11, p12, p13, p14, p15, p16, p17, p18, zi_1, zi_2, zi_3, zi_4, zi_5, zi_6, zi_7, zi_8, zi_9, zi_10, zi_11, zi_12, zi_14, zi_15, zi_16, zi_17, zi_18, zi_f0, zi_f1, zi_f11, zi_f15, zi_u1, zi_u2, zi_u3, zi_u4, zi_u5, zi_u6, zi_u7, zi_u8, zi_u9, zi_u10, zi_u11, zi_u12, zi_u14, zi_u15, zi_u16, zi_u17, zi_u18, zi_v0, zi_v1, zi_v11, zi_v15, h1, zr_bl, e1, not_true, ih, Nat.add_assoc, pk_mul]
    · have ih := ih a (by omega)
      simp (disch := first | assumption | omega | exact Nat.le_of_ble_eq_true rfl) only [q_M_blankLeaves_5, q_M_blankLeaves_0, q_M_blankLeaves_1, q_M_blankLeaves_2, q_M_blankLeaves_4, q_M_blankLeaves_6, q_M_blankLeaves_8, q_M_blankLeaves_11, q_M_blankLeaves_11n, q_M_blankLeaves_12, q_M_blankLeaves_15, q_M_blankLeaves_16, q_M_blankLeaves_18, q_M_blankLeaves_19, q_M_blankLeaves_20, q_M_blankLeaves_21, q_M_blankLeaves_22, q_M_blankLeaves_25, q_M_blankLeaves_28, q_M_blankLeaves_31, q_M_blankLeaves_34, q_M_blankLeaves_35, Option.bind_some, Option.toList_some, Option.toList_none, List.cons_append, List.nil_append, zq_rf_some, zq_rf_none, ↓reduceIte, zq_lt, zq_le, zq_eq, nI_add, zq_up_s, zq_up_o, zq_up_k, zq_b_eq0, Nat.reduceEqDiff, Nat.reduceLeDiff, Nat.reduceLT, Nat.reduceAdd, not_true_eq_false, not_false_eq_true, Nat.not_lt_zero, zq_on_lt, zq_os, false_or, or_false, or_self, p1, p2, p3, p4, p5, p6, p7, p8, p9, p10, p11, p12, p13, p14, p15, p16, p17, p18, zi_1, zi_2, zi_3, zi_4, zi_5, zi_6, zi_7, zi_8, zi_9, zi_10, zi_11, zi_12, zi_14, zi_15, zi_16, zi_17, zi_18, zi_f0, zi_f1, zi_f11, zi_f15, zi_u1, zi_u2, zi_u3, zi_u4, zi_u5, zi_u6, zi_u7, zi_u8, zi_u9, zi_u10, zi_u11, zi_u12, zi_u14, zi_u15, zi_u16, zi_u17, zi_u18, zi_v0, zi_v1, zi_v11, zi_v15, h1, zr_bl, e1, not_false_eq_true, ih, Nat.zero_add, pk_mul]
theorem m_M_blankLeaves {d nx kx r : Nat} {sh : zq_S} {P : zq_P} {S : Nat → Nat → Nat} {I0 : zq_I} (hM : zr_lay r sh P) {row : Nat} (hr : row < 22) (hS : zr_bd S) : zq_C d 82 [.ref r, .int (nI row)] sh (zi r S I0) P nx kx = some (some (.int (nI (zr_bl S row 8 8))), sh, zi r S I0, P, nx, kx) := by
  have h := m_M_blankLeaves_go (d := d) (nx := nx) (kx := kx) (I0 := I0) hM hr hS 8 8 0 rfl
  rw [Nat.zero_add] at h
  simp (disch := first | assumption | omega | exact Nat.le_of_ble_eq_true rfl) only [q_M_blankLeaves, q_M_blankLeaves_0, q_M_blankLeaves_1, q_M_blankLeaves_2, q_M_blankLeaves_4, q_M_blankLeaves_6, q_M_blankLeaves_8, q_M_blankLeaves_11, q_M_blankLeaves_11n, q_M_blankLeaves_12, q_M_blankLeaves_15, q_M_blankLeaves_16, q_M_blankLeaves_18, q_M_blankLeaves_19, q_M_blankLeaves_20, q_M_blankLeaves_21, q_M_blankLeaves_22, q_M_blankLeaves_25, q_M_blankLeaves_28, q_M_blankLeaves_31, q_M_blankLeaves_34, q_M_blankLeaves_35, h]
def zr_pp (S : Nat → Nat → Nat) (k w c : Nat) : Nat → Nat → Nat := zq_up (zq_up (zq_up (zq_up S 10 (S 0 11) k) 11 (S 0 11) w) 12 (S 0 11) c) 0 11 (S 0 11 + 1)
theorem m_M_propose {d nx kx r : Nat} {sh : zq_S} {P : zq_P} {S : Nat → Nat → Nat} {I0 : zq_I} (hM : zr_lay r sh P) {k w c : Nat} (hn : S 0 11 < 32) : zq_C d 83 [.ref r, .int (nI k), .int (nI w), .int (nI c)] sh (zi r S I0) P nx kx = some (some (.int (nI (S 0 11 + 1))), sh, zi r (zr_pp S k w c) I0, P, nx, kx) := by
  obtain ⟨s0, t1, n1, t2, n2, t3, n3, t4, n4, t5, n5, t6, n6, t7, n7, t8, n8, t9, n9, t10, n10, t11, n11, t12, n12, t13, n13, t14, n14, t15, n15, t16, n16, t17, n17, t18, n18, p1, p2, p3, p4, p5, p6, p7, p8, p9, p10, p11, p12, p13, p14, p15, p16, p17, p18⟩ := id hM
  simp (disch := first | assumption | omega | exact Nat.le_of_ble_eq_true rfl) only [q_M_propose, q_M_propose_0, q_M_propose_0n, q_M_propose_1, q_M_propose_4, q_M_propose_4n, q_M_propose_5, q_M_propose_8, q_M_propose_9, q_M_propose_10, q_M_propose_10n, q_M_propose_11, q_M_propose_14, q_M_propose_14n, q_M_propose_15, q_M_propose_18, q_M_propose_19, q_M_propose_20, q_M_propose_20n, q_M_propose_21, q_M_propose_24, q_M_propose_24n, q_M_propose_25, q_M_propose_28, q_M_propose_29, q_M_propose_30, q_M_propose_30n, q_M_propose_31, q_M_propose_31i, q_M_propose_32, q_M_propose_35, q_M_propose_36, q_M_propose_37, q_M_propose_40, q_M_propose_40n, q_M_propose_41, q_M_propose_44, Option.bind_some, Option.toList_some, Option.toList_none, List.cons_append, List.nil_append, zq_rf_some, zq_rf_none, ↓reduceIte, zq_lt, zq_le, zq_eq, nI_add, zq_up_s, zq_up_o, zq_up_k, zq_b_eq0, Nat.reduceEqDiff, Nat.reduceLeDiff, Nat.reduceLT, Nat.reduceAdd, not_true_eq_false, not_false_eq_true, Nat.not_lt_zero, zq_on_lt, zq_os, false_or, or_false, or_self, p1, p2, p3, p4, p5, p6, p7, p8, p9, p10, p11, p12, p13, p14, p15, p16, p17, p18, zi_1, zi_2, zi_3, zi_4, zi_5, zi_6, zi_7, zi_8, zi_9, zi_10, zi_11, zi_12, zi_14, zi_15, zi_16, zi_17, zi_18, zi_f0, zi_f1, zi_f11, zi_f15, zi_u1, zi_u2, zi_u3, zi_u4, zi_u5, zi_u6, zi_u7, zi_u8, zi_u9, zi_u10, zi_u11, zi_u12, zi_u14, zi_u15, zi_u16, zi_u17, zi_u18, zi_v0, zi_v1, zi_v11, zi_v15, zr_pp]
theorem zq_m1' : (nI 0 - nI 1 : Int32) = -1 := by decide
theorem zq_pred (n : Nat) : nI (n + 1) - nI 1 = nI n := nI_pred n
/-- newest below 0, in terms of the number of epochs -/
theorem zq_ne_lt (n : Nat) (h : n < 2147483648) : (nI n - nI 1 < nI 0) = (n = 0) := by
  cases n with
  | zero => decide
  | succ m =>
    rw [zq_pred, zq_lt (by omega) (by decide)]
    simp
theorem zq_ne_ge (n : Nat) (h : n < 2147483648) : (nI 0 ≤ nI n - nI 1) = ¬ (n = 0) := by
  cases n with
  | zero => decide
  | succ m =>
    rw [zq_pred, zq_le (by decide) (by omega)]
    simp
theorem zq_o_lt (o : Option Nat) (h : ∀ i, o = some i → i < 2147483648) : (zq_o o < nI 0) = (o = none) := by
  cases o with
  | none => decide
  | some i =>
    show (nI i < nI 0) = _
    rw [zq_lt (h i rfl) (by decide)]
    simp
theorem zr_fd_lt {S : Nat → Nat → Nat} {k w : Nat} : ∀ (c i j : Nat), zr_fd S k w c i = some j → j < i + c
  | 0, i, j, h => by cases h
  | c + 1, i, j, h => by
    unfold zr_fd at h
    split at h
    · cases h; omega
    · have := zr_fd_lt c (i + 1) j h; omega
theorem zr_fi_lt {S : Nat → Nat → Nat} {k w : Nat} (hn : S 0 11 ≤ 32) (i : Nat) (h : zr_fi S k w = some i) : i < 2147483648 := by
  have := zr_fd_lt _ _ _ h
  omega
