/-! the reference: the middle tree -/
def zr_ok (S : Nat → Nat → Nat) : Prop := zr_bd S ∧ S 0 11 ≤ 32 ∧ (∀ p, S 9 p < 8) ∧ (∀ i, S 11 i < 10) ∧ ∀ i, S 10 i = 1 → S 11 i < 8
theorem zr_ok.same {S S' : Nat → Nat → Nat} (h : zr_ok S) (hb : zr_bd S') (h0 : S' 0 11 = S 0 11) (h9 : ∀ p, S' 9 p < 8) (h10 : ∀ i, S' 10 i = S 10 i) (h11 : ∀ i, S' 11 i = S 11 i) : zr_ok S' :=
  ⟨hb, by rw [h0]; exact h.2.1, h9, fun i => by rw [h11]; exact h.2.2.2.1 i, fun i => by rw [h10, h11]; exact h.2.2.2.2 i⟩
theorem zr_ok.up {S : Nat → Nat → Nat} (h : zr_ok S) {k j v : Nat} (hv : v < 65536) (h0 : 0 ≠ k) (h9 : 9 ≠ k) (h10 : 10 ≠ k) (h11 : 11 ≠ k) : zr_ok (zq_up S k j v) :=
  h.same (h.1.up hv) (zq_up_o h0) (fun p => by rw [zq_up_o h9]; exact h.2.2.1 p) (fun i => zq_up_o h10) (fun i => zq_up_o h11)
theorem zr_ok.bA {S : Nat → Nat → Nat} (h : zr_ok S) (c n : Nat) : zr_ok (zr_bA c n S) :=
  h.same (zr_bA_bd c n S h.1) (zr_bA_o (by decide) (by decide) c n S) (fun p => by rw [zr_bA_o (by decide) (by decide)]; exact h.2.2.1 p) (fun i => zr_bA_o (by decide) (by decide) c n S) (fun i => zr_bA_o (by decide) (by decide) c n S)
theorem zr_ok.pa {S : Nat → Nat → Nat} (h : zr_ok S) {p e : Nat} (he : e < 65536) : zr_ok (zr_pa S p e) := by
  refine h.same (zr_pa_bd h.1 he) (zr_pa_o (by decide) (by decide) (by decide) (by decide) (by decide)) (fun q => ?_) (fun i => zr_pa_o (by decide) (by decide) (by decide) (by decide) (by decide)) (fun i => zr_pa_o (by decide) (by decide) (by decide) (by decide) (by decide))
  have hl := zr_lb_le S 7 0
  unfold zr_pa zq_up
  split
  · omega
  · have := h.2.2.1 q
    rw [if_neg (by omega), if_neg (by omega), zr_mk_o (by decide)]
    simp
    exact this
def zr_cp (e : Nat) : Nat → Nat → (Nat → Nat → Nat) → (Nat → Nat → Nat)
  | 0, _, S => S
  | c + 1, n, S => zr_cp e c (n + 1) (zq_up (zq_up S 1 (336 + n) (S 1 (e * 16 + n))) 2 (336 + n) (S 2 (e * 16 + n)))
theorem zr_ok.cp {e : Nat} : ∀ (c n : Nat) (S : Nat → Nat → Nat), zr_ok S → zr_ok (zr_cp e c n S)
  | 0, n, S, h => h
  | c + 1, n, S, h => zr_ok.cp c _ _ ((h.up (h.1 _ _) (by decide) (by decide) (by decide) (by decide)).up (h.1 _ _) (by decide) (by decide) (by decide) (by decide))
theorem zr_cp_o {e k j : Nat} (h1 : k ≠ 1) (h2 : k ≠ 2) : ∀ (c n : Nat) (S : Nat → Nat → Nat), zr_cp e c n S k j = S k j
  | 0, n, S => rfl
  | c + 1, n, S => by
    unfold zr_cp
    rw [zr_cp_o h1 h2 c, zq_up_o h2, zq_up_o h1]
theorem m_M_middle_g1 {d nx kx r e : Nat} {sh : zq_S} {P : zq_P} {I0 : zq_I} (hM : zr_lay r sh P) {v1 v2 : Option Value} (he : e < 21) : ∀ (c n : Nat) (S : Nat → Nat → Nat), S 0 0 = e + 1 → n + c = 16 → zq_F d 89 2 [some (.ref r), v1, v2, some (.int (nI n))] [] sh (zi r S I0) P nx kx = zq_F d 89 64 [some (.ref r), v1, v2, some (.int (nI 0))] [] sh (zi r (zr_cp e c n S) I0) P nx kx
  | 0, n, S, h0, h => by
    have h1 : 16 ≤ n := by omega
    rw [q_M_middle_2]
    simp (disch := first | assumption | omega | exact Nat.le_of_ble_eq_true rfl) only [q_M_middle_3, q_M_middle_5, q_M_middle_8, q_M_middle_8n, q_M_middle_9, q_M_middle_12, q_M_middle_15, q_M_middle_16, q_M_middle_17, q_M_middle_17n, q_M_middle_18, q_M_middle_21, q_M_middle_21n, q_M_middle_22, q_M_middle_25, q_M_middle_27, q_M_middle_28, q_M_middle_29, q_M_middle_30, q_M_middle_31, q_M_middle_32, q_M_middle_32n, q_M_middle_33, q_M_middle_36, q_M_middle_39, q_M_middle_40, q_M_middle_41, q_M_middle_41n, q_M_middle_42, q_M_middle_45, q_M_middle_45n, q_M_middle_46, q_M_middle_49, q_M_middle_51, q_M_middle_52, q_M_middle_53, q_M_middle_54, q_M_middle_55, q_M_middle_56, q_M_middle_59, q_M_middle_62, q_M_middle_63, Option.bind_some, Option.toList_some, Option.toList_none, List.cons_append, List.nil_append, zq_rf_some, zq_rf_none, ↓reduceIte, zq_lt, zq_le, zq_eq, nI_add, zq_up_s, zq_up_o, zq_up_k, zq_b_eq0, Nat.reduceEqDiff, Nat.reduceLeDiff, Nat.reduceLT, Nat.reduceAdd, not_true_eq_false, not_false_eq_true, Nat.not_lt_zero, zq_on_lt, zq_os, false_or, or_false, or_self, zr_cp, h1]
  | c + 1, n, S, h0, h => by
    have ih := m_M_middle_g1 (d := d) (nx := nx) (kx := kx) (I0 := I0) (v1 := v1) (v2 := v2) hM he c (n + 1) (zq_up (zq_up S 1 (336 + n) (S 1 (e * 16 + n))) 2 (336 + n) (S 2 (e * 16 + n))) (by rw [zq_up_o (by decide), zq_up_o (by decide)]; exact h0) (by omega)
    obtain ⟨s0, t1, n1, t2, n2, t3, n3, t4, n4, t5, n5, t6, n6, t7, n7, t8, n8, t9, n9, t10, n10, t11, n11, t12, n12, t13, n13, t14, n14, t15, n15, t16, n16, t17, n17, t18, n18, p1, p2, p3, p4, p5, p6, p7, p8, p9, p10, p11, p12, p13, p14, p15, p16, p17, p18⟩ := id hM
    have h1 : ¬ 16 ≤ n := by omega
    rw [q_M_middle_2]
    simp (disch := first | assumption | omega | exact Nat.le_of_ble_eq_true rfl) only [q_M_middle_3, q_M_middle_5, q_M_middle_8, q_M_middle_8n, q_M_middle_9, q_M_middle_12, q_M_middle_15, q_M_middle_16, q_M_middle_17, q_M_middle_17n, q_M_middle_18, q_M_middle_21, q_M_middle_21n, q_M_middle_22, q_M_middle_25, q_M_middle_27, q_M_middle_28, q_M_middle_29, q_M_middle_30, q_M_middle_31, q_M_middle_32, q_M_middle_32n, q_M_middle_33, q_M_middle_36, q_M_middle_39, q_M_middle_40, q_M_middle_41, q_M_middle_41n, q_M_middle_42, q_M_middle_45, q_M_middle_45n, q_M_middle_46, q_M_middle_49, q_M_middle_51, q_M_middle_52, q_M_middle_53, q_M_middle_54, q_M_middle_55, q_M_middle_56, q_M_middle_59, q_M_middle_62, q_M_middle_63, Option.bind_some, Option.toList_some, Option.toList_none, List.cons_append, List.nil_append, zq_rf_some, zq_rf_none, ↓reduceIte, zq_lt, zq_le, zq_eq, nI_add, zq_up_s, zq_up_o, zq_up_k, zq_b_eq0, Nat.reduceEqDiff, Nat.reduceLeDiff, Nat.reduceLT, Nat.reduceAdd, not_true_eq_false, not_false_eq_true, Nat.not_lt_zero, zq_on_lt, zq_os, false_or, or_false, or_self, p1, p2, p3, p4, p5, p6, p7, p8, p9, p10, p11, p12, p13, p14, p15, p16, p17, p18, zi_1, zi_2, zi_3, zi_4, zi_5, zi_6, zi_7, zi_8, zi_9, zi_10, zi_11, zi_12, zi_14, zi_15, zi_16, zi_17, zi_18, zi_f0, zi_f1, zi_f11, zi_f15, zi_u1, zi_u2, zi_u3, zi_u4, zi_u5, zi_u6, zi_u7, zi_u8, zi_u9, zi_u10, zi_u11, zi_u12, zi_u14, zi_u15, zi_u16, zi_u17, zi_u18, zi_v0, zi_v1, zi_v11, zi_v15, zr_cp, h1, h0, zq_pred, pk_mul, ih]
def zr_ups (p : Nat) : Nat → Nat → (Nat → Nat → Nat) → (Nat → Nat → Nat)
  | 0, _, S => S
  | c + 1, i, S => zr_ups p c (i + 1) (if S 10 i = 0 ∧ ¬ S 11 i = p then zr_bA 3 ((8 + S 9 (S 11 i)) / 2) (zq_up S 1 (344 + S 9 (S 11 i)) (S 12 i)) else S)
theorem zr_ok.ups {p : Nat} : ∀ (c i : Nat) (S : Nat → Nat → Nat), zr_ok S → zr_ok (zr_ups p c i S)
  | 0, i, S, h => h
  | c + 1, i, S, h => by
    unfold zr_ups
    apply zr_ok.ups c
    split
    · exact (h.up (h.1 _ _) (by decide) (by decide) (by decide) (by decide)).bA _ _
    · exact h
theorem zr_ups_o {p k j : Nat} (h1 : k ≠ 1) (h2 : k ≠ 2) : ∀ (c n : Nat) (S : Nat → Nat → Nat), zr_ups p c n S k j = S k j
  | 0, n, S => rfl
  | c + 1, n, S => by
    unfold zr_ups
    rw [zr_ups_o h1 h2 c]
    split
    · rw [zr_bA_o h1 h2, zq_up_o h1]
    · rfl
theorem m_M_middle_g2 {d nx kx r p : Nat} {sh : zq_S} {P : zq_P} {I0 : zq_I} (hM : zr_lay r sh P) {v2 : Option Value} (hp : p < 10) : ∀ (c i : Nat) (S : Nat → Nat → Nat), zr_ok S → i + c = S 0 11 → zq_F (d + 1) 89 64 [some (.ref r), some (.int (nI p)), v2, some (.int (nI i))] [] sh (zi r S I0) P nx kx = zq_F (d + 1) 89 146 [some (.ref r), some (.int (nI p)), v2, some (.int (nI 0))] [] sh (zi r (zr_ups p c i S) I0) P nx kx
  | 0, i, S, hS, h => by
    have s0 := hM.1
    have h1 : S 0 11 ≤ i := by omega
    have h2 := hS.2.1
    rw [q_M_middle_64]
    simp (disch := first | assumption | omega | exact Nat.le_of_ble_eq_true rfl) only [q_M_middle_65, q_M_middle_65n, q_M_middle_66, q_M_middle_69, q_M_middle_72, q_M_middle_72n, q_M_middle_73, q_M_middle_76, q_M_middle_77, q_M_middle_78, q_M_middle_81, q_M_middle_81n, q_M_middle_82, q_M_middle_85, q_M_middle_86, q_M_middle_87, q_M_middle_88, q_M_middle_91, q_M_middle_94, q_M_middle_94n, q_M_middle_95, q_M_middle_98, q_M_middle_101, q_M_middle_101n, q_M_middle_102, q_M_middle_105, q_M_middle_105n, q_M_middle_106, q_M_middle_109, q_M_middle_110, q_M_middle_111, q_M_middle_112, q_M_middle_113, q_M_middle_113n, q_M_middle_114, q_M_middle_117, q_M_middle_118, q_M_middle_119, q_M_middle_120, q_M_middle_120n, q_M_middle_121, q_M_middle_123, q_M_middle_123n, q_M_middle_124, q_M_middle_127, q_M_middle_127n, q_M_middle_128, q_M_middle_131, q_M_middle_132, q_M_middle_133, q_M_middle_134, q_M_middle_135, q_M_middle_138, q_M_middle_141, q_M_middle_144, q_M_middle_145, Option.bind_some, Option.toList_some, Option.toList_none, List.cons_append, List.nil_append, zq_rf_some, zq_rf_none, ↓reduceIte, zq_lt, zq_le, zq_eq, nI_add, zq_up_s, zq_up_o, zq_up_k, zq_b_eq0, Nat.reduceEqDiff, Nat.reduceLeDiff, Nat.reduceLT, Nat.reduceAdd, not_true_eq_false, not_false_eq_true, Nat.not_lt_zero, zq_on_lt, zq_os, false_or, or_false, or_self, zi_1, zi_2, zi_3, zi_4, zi_5, zi_6, zi_7, zi_8, zi_9, zi_10, zi_11, zi_12, zi_14, zi_15, zi_16, zi_17, zi_18, zi_f0, zi_f1, zi_f11, zi_f15, zi_u1, zi_u2, zi_u3, zi_u4, zi_u5, zi_u6, zi_u7, zi_u8, zi_u9, zi_u10, zi_u11, zi_u12, zi_u14, zi_u15, zi_u16, zi_u17, zi_u18, zi_v0, zi_v1, zi_v11, zi_v15, zr_ups, h1]
  | c + 1, i, S, hS, h => by
    have h2 := hS.2.1
    have h1 : ¬ S 0 11 ≤ i := by omega
    have b1 := hS.1.lt 10 i
    have b2 := hS.2.2.2.1 i
    have b3 := hS.2.2.1 (S 11 i)
    by_cases c1 : S 10 i = 0
    · by_cases c2 : S 11 i = p
      · have ih := m_M_middle_g2 (d := d) (nx := nx) (kx := kx) (I0 := I0) (v2 := v2) hM hp c (i + 1) S hS (by omega)
        obtain ⟨s0, t1, n1, t2, n2, t3, n3, t4, n4, t5, n5, t6, n6, t7, n7, t8, n8, t9, n9, t10, n10, t11, n11, t12, n12, t13, n13, t14, n14, t15, n15, t16, n16, t17, n17, t18, n18, p1, p2, p3, p4, p5, p6, p7, p8, p9, p10, p11, p12, p13, p14, p15, p16, p17, p18⟩ := id hM
        rw [q_M_middle_64]
        simp (disch := first | assumption | omega | exact Nat.le_of_ble_eq_true rfl) only [q_M_middle_65, q_M_middle_65n, q_M_middle_66, q_M_middle_69, q_M_middle_72, q_M_middle_72n, q_M_middle_73, q_M_middle_76, q_M_middle_77, q_M_middle_78, q_M_middle_81, q_M_middle_81n, q_M_middle_82, q_M_middle_85, q_M_middle_86, q_M_middle_87, q_M_middle_88, q_M_middle_91, q_M_middle_94, q_M_middle_94n, q_M_middle_95, q_M_middle_98, q_M_middle_101, q_M_middle_101n, q_M_middle_102, q_M_middle_105, q_M_middle_105n, q_M_middle_106, q_M_middle_109, q_M_middle_110, q_M_middle_111, q_M_middle_112, q_M_middle_113, q_M_middle_113n, q_M_middle_114, q_M_middle_117, q_M_middle_118, q_M_middle_119, q_M_middle_120, q_M_middle_120n, q_M_middle_121, q_M_middle_123, q_M_middle_123n, q_M_middle_124, q_M_middle_127, q_M_middle_127n, q_M_middle_128, q_M_middle_131, q_M_middle_132, q_M_middle_133, q_M_middle_134, q_M_middle_135, q_M_middle_138, q_M_middle_141, q_M_middle_144, q_M_middle_145, Option.bind_some, Option.toList_some, Option.toList_none, List.cons_append, List.nil_append, zq_rf_some, zq_rf_none, ↓reduceIte, zq_lt, zq_le, zq_eq, nI_add, zq_up_s, zq_up_o, zq_up_k, zq_b_eq0, Nat.reduceEqDiff, Nat.reduceLeDiff, Nat.reduceLT, Nat.reduceAdd, not_true_eq_false, not_false_eq_true, Nat.not_lt_zero, zq_on_lt, zq_os, false_or, or_false, or_self, p1, p2, p3, p4, p5, p6, p7, p8, p9, p10, p11, p12, p13, p14, p15, p16, p17, p18, zi_1, zi_2, zi_3, zi_4, zi_5, zi_6, zi_7, zi_8, zi_9, zi_10, zi_11, zi_12, zi_14, zi_15, zi_16, zi_17, zi_18, zi_f0, zi_f1, zi_f11, zi_f15, zi_u1, zi_u2, zi_u3, zi_u4, zi_u5, zi_u6, zi_u7, zi_u8, zi_u9, zi_u10, zi_u11, zi_u12, zi_u14, zi_u15, zi_u16, zi_u17, zi_u18, zi_v0, zi_v1, zi_v11, zi_v15, zr_ups, h1, c1, c2, and_false, ih]
      · have hk := (hS.up (k := 1) (j := 344 + S 9 (S 11 i)) (hS.1 12 i) (by decide) (by decide) (by decide) (by decide))
        have hq := hk.bA 3 ((8 + S 9 (S 11 i)) / 2)
        have ih := m_M_middle_g2 (d := d) (nx := nx) (kx := kx) (I0 := I0) (v2 := v2) hM hp c (i + 1) (zr_bA 3 ((8 + S 9 (S 11 i)) / 2) (zq_up S 1 (344 + S 9 (S 11 i)) (S 12 i))) hq (by rw [zr_bA_o (by decide) (by decide), zq_up_o (by decide)]; omega)
        have ba := m_M_blankAbove (d := d) (nx := nx) (kx := kx) (I0 := I0) (S := zq_up S 1 (344 + S 9 (S 11 i)) (S 12 i)) hM (n := 8 + S 9 (S 11 i)) (by omega)
        obtain ⟨s0, t1, n1, t2, n2, t3, n3, t4, n4, t5, n5, t6, n6, t7, n7, t8, n8, t9, n9, t10, n10, t11, n11, t12, n12, t13, n13, t14, n14, t15, n15, t16, n16, t17, n17, t18, n18, p1, p2, p3, p4, p5, p6, p7, p8, p9, p10, p11, p12, p13, p14, p15, p16, p17, p18⟩ := id hM
        rw [q_M_middle_64]
        simp (disch := first | assumption | omega | exact Nat.le_of_ble_eq_true rfl) only [q_M_middle_65, q_M_middle_65n, q_M_middle_66, q_M_middle_69, q_M_middle_72, q_M_middle_72n, q_M_middle_73, q_M_middle_76, q_M_middle_77, q_M_middle_78, q_M_middle_81, q_M_middle_81n, q_M_middle_82, q_M_middle_85, q_M_middle_86, q_M_middle_87, q_M_middle_88, q_M_middle_91, q_M_middle_94, q_M_middle_94n, q_M_middle_95, q_M_middle_98, q_M_middle_101, q_M_middle_101n, q_M_middle_102, q_M_middle_105, q_M_middle_105n, q_M_middle_106, q_M_middle_109, q_M_middle_110, q_M_middle_111, q_M_middle_112, q_M_middle_113, q_M_middle_113n, q_M_middle_114, q_M_middle_117, q_M_middle_118, q_M_middle_119, q_M_middle_120, q_M_middle_120n, q_M_middle_121, q_M_middle_123, q_M_middle_123n, q_M_middle_124, q_M_middle_127, q_M_middle_127n, q_M_middle_128, q_M_middle_131, q_M_middle_132, q_M_middle_133, q_M_middle_134, q_M_middle_135, q_M_middle_138, q_M_middle_141, q_M_middle_144, q_M_middle_145, Option.bind_some, Option.toList_some, Option.toList_none, List.cons_append, List.nil_append, zq_rf_some, zq_rf_none, ↓reduceIte, zq_lt, zq_le, zq_eq, nI_add, zq_up_s, zq_up_o, zq_up_k, zq_b_eq0, Nat.reduceEqDiff, Nat.reduceLeDiff, Nat.reduceLT, Nat.reduceAdd, not_true_eq_false, not_false_eq_true, Nat.not_lt_zero, zq_on_lt, zq_os, false_or, or_false, or_self, p1, p2, p3, p4, p5, p6, p7, p8, p9, p10, p11, p12, p13, p14, p15, p16, p17, p18, zi_1, zi_2, zi_3, zi_4, zi_5, zi_6, zi_7, zi_8, zi_9, zi_10, zi_11, zi_12, zi_14, zi_15, zi_16, zi_17, zi_18, zi_f0, zi_f1, zi_f11, zi_f15, zi_u1, zi_u2, zi_u3, zi_u4, zi_u5, zi_u6, zi_u7, zi_u8, zi_u9, zi_u10, zi_u11, zi_u12, zi_u14, zi_u15, zi_u16, zi_u17, zi_u18, zi_v0, zi_v1, zi_v11, zi_v15, zr_ups, h1, c1, c2, and_self, ih, ba]
    · have ih := m_M_middle_g2 (d := d) (nx := nx) (kx := kx) (I0 := I0) (v2 := v2) hM hp c (i + 1) S hS (by omega)
      obtain ⟨s0, t1, n1, t2, n2, t3, n3, t4, n4, t5, n5, t6, n6, t7, n7, t8, n8, t9, n9, t10, n10, t11, n11, t12, n12, t13, n13, t14, n14, t15, n15, t16, n16, t17, n17, t18, n18, p1, p2, p3, p4, p5, p6, p7, p8, p9, p10, p11, p12, p13, p14, p15, p16, p17, p18⟩ := id hM
      rw [q_M_middle_64]
      simp (disch := first | assumption | omega | exact Nat.le_of_ble_eq_true rfl) only [q_M_middle_65, q_M_middle_65n, q_M_middle_66, q_M_middle_69, q_M_middle_72, q_M_middle_72n, q_M_middle_73, q_M_middle_76, q_M_middle_77, q_M_middle_78, q_M_middle_81, q_M_middle_81n, q_M_middle_82, q_M_middle_85, q_M_middle_86, q_M_middle_87, q_M_middle_88, q_M_middle_91, q_M_middle_94, q_M_middle_94n, q_M_middle_95, q_M_middle_98, q_M_middle_101, q_M_middle_101n, q_M_middle_102, q_M_middle_105, q_M_middle_105n, q_M_middle_106, q_M_middle_109, q_M_middle_110, q_M_middle_111, q_M_middle_112, q_M_middle_113, q_M_middle_113n, q_M_middle_114, q_M_middle_117, q_M_middle_118, q_M_middle_119, q_M_middle_120, q_M_middle_120n, q_M_middle_121, q_M_middle_123, q_M_middle_123n, q_M_middle_124, q_M_middle_127, q_M_middle_127n, q_M_middle_128, q_M_middle_131, q_M_middle_132, q_M_middle_133, q_M_middle_134, q_M_middle_135, q_M_middle_138, q_M_middle_141, q_M_middle_144, q_M_middle_145, Option.bind_some, Option.toList_some, Option.toList_none, List.cons_append, List.nil_append, zq_rf_some, zq_rf_none, ↓reduceIte, zq_lt, zq_le, zq_eq, nI_add, zq_up_s, zq_up_o, zq_up_k, zq_b_eq0, Nat.reduceEqDiff, Nat.reduceLeDiff, Nat.reduceLT, Nat.reduceAdd, not_true_eq_false, not_false_eq_true, Nat.not_lt_zero, zq_on_lt, zq_os, false_or, or_false, or_self, p1, p2, p3, p4, p5, p6, p7, p8, p9, p10, p11, p12, p13, p14, p15, p16, p17, p18, zi_1, zi_2, zi_3, zi_4, zi_5, zi_6, zi_7, zi_8, zi_9, zi_10, zi_11, zi_12, zi_14, zi_15, zi_16, zi_17, zi_18, zi_f0, zi_f1, zi_f11, zi_f15, zi_u1, zi_u2, zi_u3, zi_u4, zi_u5, zi_u6, zi_u7, zi_u8, zi_u9, zi_u10, zi_u11, zi_u12, zi_u14, zi_u15, zi_u16, zi_u17, zi_u18, zi_v0, zi_v1, zi_v11, zi_v15, zr_ups, h1, c1, false_and, ih]
def zr_rms (e : Nat) : Nat → Nat → (Nat → Nat → Nat) → (Nat → Nat → Nat)
  | 0, _, S => S
  | c + 1, i, S => zr_rms e c (i + 1) (if S 10 i = 1 then zq_up (zr_bA 3 ((8 + S 11 i) / 2) (zq_up S 1 (344 + S 11 i) 0)) 3 e (S 3 e ||| 2 ^ S 11 i) else S)
theorem zr_ok.rms {e : Nat} : ∀ (c i : Nat) (S : Nat → Nat → Nat), zr_ok S → zr_ok (zr_rms e c i S)
  | 0, i, S, h => h
  | c + 1, i, S, h => by
    unfold zr_rms
    apply zr_ok.rms c
    split
    · exact ((h.up (by decide) (by decide) (by decide) (by decide) (by decide)).bA _ _).up (h.1.or (by have := h.2.2.2.1 i; omega)) (by decide) (by decide) (by decide) (by decide)
    · exact h
theorem zr_rms_o {e k j : Nat} (h1 : k ≠ 1) (h2 : k ≠ 2) (h3 : k ≠ 3) : ∀ (c n : Nat) (S : Nat → Nat → Nat), zr_rms e c n S k j = S k j
  | 0, n, S => rfl
  | c + 1, n, S => by
    unfold zr_rms
    rw [zr_rms_o h1 h2 h3 c]
    split
    · rw [zq_up_o h3, zr_bA_o h1 h2, zq_up_o h1]
    · rfl
theorem m_M_middle_g3 {d nx kx r e : Nat} {sh : zq_S} {P : zq_P} {I0 : zq_I} (hM : zr_lay r sh P) {v1 : Option Value} (he : e < 21) : ∀ (c i : Nat) (S : Nat → Nat → Nat), zr_ok S → i + c = S 0 11 → zq_F (d + 1) 89 146 [some (.ref r), v1, some (.int (nI e)), some (.int (nI i))] [] sh (zi r S I0) P nx kx = zq_F (d + 1) 89 221 [some (.ref r), v1, some (.int (nI e)), some (.int (nI 0))] [] sh (zi r (zr_rms e c i S) I0) P nx kx
  | 0, i, S, hS, h => by
    have s0 := hM.1
    have h1 : S 0 11 ≤ i := by omega
    have h2 := hS.2.1
    rw [q_M_middle_146]
    simp (disch := first | assumption | omega | exact Nat.le_of_ble_eq_true rfl) only [q_M_middle_147, q_M_middle_147n, q_M_middle_148, q_M_middle_151, q_M_middle_154, q_M_middle_154n, q_M_middle_155, q_M_middle_158, q_M_middle_159, q_M_middle_160, q_M_middle_161, q_M_middle_164, q_M_middle_167, q_M_middle_167n, q_M_middle_168, q_M_middle_171, q_M_middle_174, q_M_middle_174n, q_M_middle_175, q_M_middle_178, q_M_middle_179, q_M_middle_180, q_M_middle_181, q_M_middle_182, q_M_middle_183, q_M_middle_183n, q_M_middle_184, q_M_middle_186, q_M_middle_186n, q_M_middle_187, q_M_middle_190, q_M_middle_191, q_M_middle_192, q_M_middle_193, q_M_middle_196, q_M_middle_196n, q_M_middle_197, q_M_middle_200, q_M_middle_201, q_M_middle_202, q_M_middle_203, q_M_middle_204, q_M_middle_204n, q_M_middle_205, q_M_middle_208, q_M_middle_209, q_M_middle_210, q_M_middle_211, q_M_middle_212, q_M_middle_213, q_M_middle_216, q_M_middle_219, q_M_middle_220, Option.bind_some, Option.toList_some, Option.toList_none, List.cons_append, List.nil_append, zq_rf_some, zq_rf_none, ↓reduceIte, zq_lt, zq_le, zq_eq, nI_add, zq_up_s, zq_up_o, zq_up_k, zq_b_eq0, Nat.reduceEqDiff, Nat.reduceLeDiff, Nat.reduceLT, Nat.reduceAdd, not_true_eq_false, not_false_eq_true, Nat.not_lt_zero, zq_on_lt, zq_os, false_or, or_false, or_self, zi_1, zi_2, zi_3, zi_4, zi_5, zi_6, zi_7, zi_8, zi_9, zi_10, zi_11, zi_12, zi_14, zi_15, zi_16, zi_17, zi_18, zi_f0, zi_f1, zi_f11, zi_f15, zi_u1, zi_u2, zi_u3, zi_u4, zi_u5, zi_u6, zi_u7, zi_u8, zi_u9, zi_u10, zi_u11, zi_u12, zi_u14, zi_u15, zi_u16, zi_u17, zi_u18, zi_v0, zi_v1, zi_v11, zi_v15, zr_rms, h1]
  | c + 1, i, S, hS, h => by
    have h2 := hS.2.1
    have h1 : ¬ S 0 11 ≤ i := by omega
    have b1 := hS.1.lt 10 i
    by_cases c1 : S 10 i = 1
    · have b2 := hS.2.2.2.2 i c1
      have hk := (hS.up (k := 1) (j := 344 + S 11 i) (show 0 < 65536 by decide) (by decide) (by decide) (by decide) (by decide))
      have hq := (hk.bA 3 ((8 + S 11 i) / 2)).up (k := 3) (j := e) (v := S 3 e ||| 2 ^ S 11 i) (hS.1.or (by omega)) (by decide) (by decide) (by decide) (by decide)
      have ih := m_M_middle_g3 (d := d) (nx := nx) (kx := kx) (I0 := I0) (v1 := v1) hM he c (i + 1) _ hq (by rw [zq_up_o (by decide), zr_bA_o (by decide) (by decide), zq_up_o (by decide)]; omega)
      have ba := m_M_blankAbove (d := d) (nx := nx) (kx := kx) (I0 := I0) (S := zq_up S 1 (344 + S 11 i) 0) hM (n := 8 + S 11 i) (by omega)
      have o3 : ∀ j, zr_bA 3 ((8 + S 11 i) / 2) (zq_up S 1 (344 + S 11 i) 0) 3 j = S 3 j := fun j => by rw [zr_bA_o (by decide) (by decide), zq_up_o (by decide)]
      have o11 : ∀ j, zr_bA 3 ((8 + S 11 i) / 2) (zq_up S 1 (344 + S 11 i) 0) 11 j = S 11 j := fun j => by rw [zr_bA_o (by decide) (by decide), zq_up_o (by decide)]
      obtain ⟨s0, t1, n1, t2, n2, t3, n3, t4, n4, t5, n5, t6, n6, t7, n7, t8, n8, t9, n9, t10, n10, t11, n11, t12, n12, t13, n13, t14, n14, t15, n15, t16, n16, t17, n17, t18, n18, p1, p2, p3, p4, p5, p6, p7, p8, p9, p10, p11, p12, p13, p14, p15, p16, p17, p18⟩ := id hM
      rw [q_M_middle_146]
      simp (disch := first | assumption | omega | exact Nat.le_of_ble_eq_true rfl) only [q_M_middle_147, q_M_middle_147n, q_M_middle_148, q_M_middle_151, q_M_middle_154, q_M_middle_154n, q_M_middle_155, q_M_middle_158, q_M_middle_159, q_M_middle_160, q_M_middle_161, q_M_middle_164, q_M_middle_167, q_M_middle_167n, q_M_middle_168, q_M_middle_171, q_M_middle_174, q_M_middle_174n, q_M_middle_175, q_M_middle_178, q_M_middle_179, q_M_middle_180, q_M_middle_181, q_M_middle_182, q_M_middle_183, q_M_middle_183n, q_M_middle_184, q_M_middle_186, q_M_middle_186n, q_M_middle_187, q_M_middle_190, q_M_middle_191, q_M_middle_192, q_M_middle_193, q_M_middle_196, q_M_middle_196n, q_M_middle_197, q_M_middle_200, q_M_middle_201, q_M_middle_202, q_M_middle_203, q_M_middle_204, q_M_middle_204n, q_M_middle_205, q_M_middle_208, q_M_middle_209, q_M_middle_210, q_M_middle_211, q_M_middle_212, q_M_middle_213, q_M_middle_216, q_M_middle_219, q_M_middle_220, Option.bind_some, Option.toList_some, Option.toList_none, List.cons_append, List.nil_append, zq_rf_some, zq_rf_none, ↓reduceIte, zq_lt, zq_le, zq_eq, nI_add, zq_up_s, zq_up_o, zq_up_k, zq_b_eq0, Nat.reduceEqDiff, Nat.reduceLeDiff, Nat.reduceLT, Nat.reduceAdd, not_true_eq_false, not_false_eq_true, Nat.not_lt_zero, zq_on_lt, zq_os, false_or, or_false, or_self, p1, p2, p3, p4, p5, p6, p7, p8, p9, p10, p11, p12, p13, p14, p15, p16, p17, p18, zi_1, zi_2, zi_3, zi_4, zi_5, zi_6, zi_7, zi_8, zi_9, zi_10, zi_11, zi_12, zi_14, zi_15, zi_16, zi_17, zi_18, zi_f0, zi_f1, zi_f11, zi_f15, zi_u1, zi_u2, zi_u3, zi_u4, zi_u5, zi_u6, zi_u7, zi_u8, zi_u9, zi_u10, zi_u11, zi_u12, zi_u14, zi_u15, zi_u16, zi_u17, zi_u18, zi_v0, zi_v1, zi_v11, zi_v15, zr_rms, h1, c1, ih, ba, o3, o11, zq_shl1, zq_or]
    · have ih := m_M_middle_g3 (d := d) (nx := nx) (kx := kx) (I0 := I0) (v1 := v1) hM he c (i + 1) S hS (by omega)
      obtain ⟨s0, t1, n1, t2, n2, t3, n3, t4, n4, t5, n5, t6, n6, t7, n7, t8, n8, t9, n9, t10, n10, t11, n11, t12, n12, t13, n13, t14, n14, t15, n15, t16, n16, t17, n17, t18, n18, p1, p2, p3, p4, p5, p6, p7, p8, p9, p10, p11, p12, p13, p14, p15, p16, p17, p18⟩ := id hM
      rw [q_M_middle_146]
      simp (disch := first | assumption | omega | exact Nat.le_of_ble_eq_true rfl) only [q_M_middle_147, q_M_middle_147n, q_M_middle_148, q_M_middle_151, q_M_middle_154, q_M_middle_154n, q_M_middle_155, q_M_middle_158, q_M_middle_159, q_M_middle_160, q_M_middle_161, q_M_middle_164, q_M_middle_167, q_M_middle_167n, q_M_middle_168, q_M_middle_171, q_M_middle_174, q_M_middle_174n, q_M_middle_175, q_M_middle_178, q_M_middle_179, q_M_middle_180, q_M_middle_181, q_M_middle_182, q_M_middle_183, q_M_middle_183n, q_M_middle_184, q_M_middle_186, q_M_middle_186n, q_M_middle_187, q_M_middle_190, q_M_middle_191, q_M_middle_192, q_M_middle_193, q_M_middle_196, q_M_middle_196n, q_M_middle_197, q_M_middle_200, q_M_middle_201, q_M_middle_202, q_M_middle_203, q_M_middle_204, q_M_middle_204n, q_M_middle_205, q_M_middle_208, q_M_middle_209, q_M_middle_210, q_M_middle_211, q_M_middle_212, q_M_middle_213, q_M_middle_216, q_M_middle_219, q_M_middle_220, Option.bind_some, Option.toList_some, Option.toList_none, List.cons_append, List.nil_append, zq_rf_some, zq_rf_none, ↓reduceIte, zq_lt, zq_le, zq_eq, nI_add, zq_up_s, zq_up_o, zq_up_k, zq_b_eq0, Nat.reduceEqDiff, Nat.reduceLeDiff, Nat.reduceLT, Nat.reduceAdd, not_true_eq_false, not_false_eq_true, Nat.not_lt_zero, zq_on_lt, zq_os, false_or, or_false, or_self, p1, p2, p3, p4, p5, p6, p7, p8, p9, p10, p11, p12, p13, p14, p15, p16, p17, p18, zi_1, zi_2, zi_3, zi_4, zi_5, zi_6, zi_7, zi_8, zi_9, zi_10, zi_11, zi_12, zi_14, zi_15, zi_16, zi_17, zi_18, zi_f0, zi_f1, zi_f11, zi_f15, zi_u1, zi_u2, zi_u3, zi_u4, zi_u5, zi_u6, zi_u7, zi_u8, zi_u9, zi_u10, zi_u11, zi_u12, zi_u14, zi_u15, zi_u16, zi_u17, zi_u18, zi_v0, zi_v1, zi_v11, zi_v15, zr_rms, h1, c1, ih]
def zr_ads (e : Nat) : Nat → Nat → (Nat → Nat → Nat) → (Nat → Nat → Nat)
  | 0, _, S => S
  | c + 1, i, S => zr_ads e c (i + 1) (if S 10 i = 2 then zr_pa S (S 11 i) e else S)
theorem zr_ok.ads {e : Nat} (he : e < 65536) : ∀ (c i : Nat) (S : Nat → Nat → Nat), zr_ok S → zr_ok (zr_ads e c i S)
  | 0, i, S, h => h
  | c + 1, i, S, h => by
    unfold zr_ads
    apply zr_ok.ads he c
    split
    · exact h.pa he
    · exact h
theorem zr_ads_o {e k j : Nat} (h1 : k ≠ 1) (h2 : k ≠ 2) (h6 : k ≠ 6) (h8 : k ≠ 8) (h9 : k ≠ 9) : ∀ (c n : Nat) (S : Nat → Nat → Nat), zr_ads e c n S k j = S k j
  | 0, n, S => rfl
  | c + 1, n, S => by
    unfold zr_ads
    rw [zr_ads_o h1 h2 h6 h8 h9 c]
    split
    · rw [zr_pa_o h1 h2 h6 h8 h9]
    · rfl
theorem m_M_middle_g4 {d nx kx r e : Nat} {sh : zq_S} {P : zq_P} {I0 : zq_I} (hM : zr_lay r sh P) {v1 : Option Value} (he : e < 21) : ∀ (c i : Nat) (S : Nat → Nat → Nat), zr_ok S → i + c = S 0 11 → zq_F (d + 1) 89 221 [some (.ref r), v1, some (.int (nI e)), some (.int (nI i))] [] sh (zi r S I0) P nx kx = some (none, sh, zi r (zr_ads e c i S) I0, P, nx, kx)
  | 0, i, S, hS, h => by
    have s0 := hM.1
    have h1 : S 0 11 ≤ i := by omega
    have h2 := hS.2.1
    rw [q_M_middle_221]
    simp (disch := first | assumption | omega | exact Nat.le_of_ble_eq_true rfl) only [q_M_middle_222, q_M_middle_222n, q_M_middle_223, q_M_middle_226, q_M_middle_229, q_M_middle_229n, q_M_middle_230, q_M_middle_233, q_M_middle_234, q_M_middle_235, q_M_middle_236, q_M_middle_239, q_M_middle_239n, q_M_middle_240, q_M_middle_240n, q_M_middle_241, q_M_middle_244, q_M_middle_245, q_M_middle_246, q_M_middle_247, q_M_middle_250, q_M_middle_253, q_M_middle_256, Option.bind_some, Option.toList_some, Option.toList_none, List.cons_append, List.nil_append, zq_rf_some, zq_rf_none, ↓reduceIte, zq_lt, zq_le, zq_eq, nI_add, zq_up_s, zq_up_o, zq_up_k, zq_b_eq0, Nat.reduceEqDiff, Nat.reduceLeDiff, Nat.reduceLT, Nat.reduceAdd, not_true_eq_false, not_false_eq_true, Nat.not_lt_zero, zq_on_lt, zq_os, false_or, or_false, or_self, zi_1, zi_2, zi_3, zi_4, zi_5, zi_6, zi_7, zi_8, zi_9, zi_10, zi_11, zi_12, zi_14, zi_15, zi_16, zi_17, zi_18, zi_f0, zi_f1, zi_f11, zi_f15, zi_u1, zi_u2, zi_u3, zi_u4, zi_u5, zi_u6, zi_u7, zi_u8, zi_u9, zi_u10, zi_u11, zi_u12, zi_u14, zi_u15, zi_u16, zi_u17, zi_u18, zi_v0, zi_v1, zi_v11, zi_v15, zr_ads, h1]
  | c + 1, i, S, hS, h => by
    have h2 := hS.2.1
    have h1 : ¬ S 0 11 ≤ i := by omega
    have b1 := hS.1.lt 10 i
    have b2 := hS.2.2.2.1 i
    by_cases c1 : S 10 i = 2
    · have ih := m_M_middle_g4 (d := d) (nx := nx) (kx := kx) (I0 := I0) (v1 := v1) hM he c (i + 1) _ (hS.pa (p := S 11 i) (e := e) (by omega)) (by rw [zr_pa_o (by decide) (by decide) (by decide) (by decide) (by decide)]; omega)
      have pa := m_M_putAdded (d := d) (nx := nx) (kx := kx) (I0 := I0) (S := S) (e := e) hM hS.1 b2
      obtain ⟨s0, t1, n1, t2, n2, t3, n3, t4, n4, t5, n5, t6, n6, t7, n7, t8, n8, t9, n9, t10, n10, t11, n11, t12, n12, t13, n13, t14, n14, t15, n15, t16, n16, t17, n17, t18, n18, p1, p2, p3, p4, p5, p6, p7, p8, p9, p10, p11, p12, p13, p14, p15, p16, p17, p18⟩ := id hM
      rw [q_M_middle_221]
      simp (disch := first | assumption | omega | exact Nat.le_of_ble_eq_true rfl) only [q_M_middle_222, q_M_middle_222n, q_M_middle_223, q_M_middle_226, q_M_middle_229, q_M_middle_229n, q_M_middle_230, q_M_middle_233, q_M_middle_234, q_M_middle_235, q_M_middle_236, q_M_middle_239, q_M_middle_239n, q_M_middle_240, q_M_middle_240n, q_M_middle_241, q_M_middle_244, q_M_middle_245, q_M_middle_246, q_M_middle_247, q_M_middle_250, q_M_middle_253, q_M_middle_256, Option.bind_some, Option.toList_some, Option.toList_none, List.cons_append, List.nil_append, zq_rf_some, zq_rf_none, ↓reduceIte, zq_lt, zq_le, zq_eq, nI_add, zq_up_s, zq_up_o, zq_up_k, zq_b_eq0, Nat.reduceEqDiff, Nat.reduceLeDiff, Nat.reduceLT, Nat.reduceAdd, not_true_eq_false, not_false_eq_true, Nat.not_lt_zero, zq_on_lt, zq_os, false_or, or_false, or_self, p1, p2, p3, p4, p5, p6, p7, p8, p9, p10, p11, p12, p13, p14, p15, p16, p17, p18, zi_1, zi_2, zi_3, zi_4, zi_5, zi_6, zi_7, zi_8, zi_9, zi_10, zi_11, zi_12, zi_14, zi_15, zi_16, zi_17, zi_18, zi_f0, zi_f1, zi_f11, zi_f15, zi_u1, zi_u2, zi_u3, zi_u4, zi_u5, zi_u6, zi_u7, zi_u8, zi_u9, zi_u10, zi_u11, zi_u12, zi_u14, zi_u15, zi_u16, zi_u17, zi_u18, zi_v0, zi_v1, zi_v11, zi_v15, zr_ads, h1, c1, ih, pa]
    · have ih := m_M_middle_g4 (d := d) (nx := nx) (kx := kx) (I0 := I0) (v1 := v1) hM he c (i + 1) S hS (by omega)
      obtain ⟨s0, t1, n1, t2, n2, t3, n3, t4, n4, t5, n5, t6, n6, t7, n7, t8, n8, t9, n9, t10, n10, t11, n11, t12, n12, t13, n13, t14, n14, t15, n15, t16, n16, t17, n17, t18, n18, p1, p2, p3, p4, p5, p6, p7, p8, p9, p10, p11, p12, p13, p14, p15, p16, p17, p18⟩ := id hM
      rw [q_M_middle_221]
      simp (disch := first | assumption | omega | exact Nat.le_of_ble_eq_true rfl) only [q_M_middle_222, q_M_middle_222n, q_M_middle_223, q_M_middle_226, q_M_middle_229, q_M_middle_229n, q_M_middle_230, q_M_middle_233, q_M_middle_234, q_M_middle_235, q_M_middle_236, q_M_middle_239, q_M_middle_239n, q_M_middle_240, q_M_middle_240n, q_M_middle_241, q_M_middle_244, q_M_middle_245, q_M_middle_246, q_M_middle_247, q_M_middle_250, q_M_middle_253, q_M_middle_256, Option.bind_some, Option.toList_some, Option.toList_none, List.cons_append, List.nil_append, zq_rf_some, zq_rf_none, ↓reduceIte, zq_lt, zq_le, zq_eq, nI_add, zq_up_s, zq_up_o, zq_up_k, zq_b_eq0, Nat.reduceEqDiff, Nat.reduceLeDiff, Nat.reduceLT, Nat.reduceAdd, not_true_eq_false, not_false_eq_true, Nat.not_lt_zero, zq_on_lt, zq_os, false_or, or_false, or_self, p1, p2, p3, p4, p5, p6, p7, p8, p9, p10, p11, p12, p13, p14, p15, p16, p17, p18, zi_1, zi_2, zi_3, zi_4, zi_5, zi_6, zi_7, zi_8, zi_9, zi_10, zi_11, zi_12, zi_14, zi_15, zi_16, zi_17, zi_18, zi_f0, zi_f1, zi_f11, zi_f15, zi_u1, zi_u2, zi_u3, zi_u4, zi_u5, zi_u6, zi_u7, zi_u8, zi_u9, zi_u10, zi_u11, zi_u12, zi_u14, zi_u15, zi_u16, zi_u17, zi_u18, zi_v0, zi_v1, zi_v11, zi_v15, zr_ads, h1, c1, ih]
def zr_mid (S : Nat → Nat → Nat) (p e : Nat) : Nat → Nat → Nat := zr_ads (e + 1) (S 0 11) 0 (zr_rms (e + 1) (S 0 11) 0 (zr_ups p (S 0 11) 0 (zr_cp e 16 0 S)))
theorem zr_ok.mid {S : Nat → Nat → Nat} (h : zr_ok S) {p e : Nat} (he : e < 20) : zr_ok (zr_mid S p e) := zr_ok.ads (by omega) _ _ _ (zr_ok.rms _ _ _ (zr_ok.ups _ _ _ (zr_ok.cp _ _ _ h)))
theorem m_M_middle {d nx kx r p e : Nat} {sh : zq_S} {P : zq_P} {S : Nat → Nat → Nat} {I0 : zq_I} (hM : zr_lay r sh P) (hS : zr_ok S) (hp : p < 10) (he : e < 20) (h0 : S 0 0 = e + 1) : zq_C (d + 1) 89 [.ref r, .int (nI p), .int (nI (e + 1))] sh (zi r S I0) P nx kx = some (none, sh, zi r (zr_mid S p e) I0, P, nx, kx) := by
  have g1 := m_M_middle_g1 (d := d + 1) (nx := nx) (kx := kx) (I0 := I0) (v1 := some (.int (nI p))) (v2 := some (.int (nI (e + 1)))) hM (show e < 21 by omega) 16 0 S h0 rfl
  have o1 := hS.cp (e := e) 16 0
  have e1 : zr_cp e 16 0 S 0 11 = S 0 11 := zr_cp_o (by decide) (by decide) _ _ _
  have g2 := m_M_middle_g2 (d := d) (nx := nx) (kx := kx) (I0 := I0) (v2 := some (.int (nI (e + 1)))) hM hp (S 0 11) 0 _ o1 (by rw [e1, Nat.zero_add])
  have o2 := o1.ups (p := p) (S 0 11) 0
  have e2 : zr_ups p (S 0 11) 0 (zr_cp e 16 0 S) 0 11 = S 0 11 := by rw [zr_ups_o (by decide) (by decide), e1]
  have g3 := m_M_middle_g3 (d := d) (nx := nx) (kx := kx) (I0 := I0) (v1 := some (.int (nI p))) hM (show e + 1 < 21 by omega) (S 0 11) 0 _ o2 (by rw [e2, Nat.zero_add])
  have o3 := o2.rms (e := e + 1) (S 0 11) 0
  have e3 : zr_rms (e + 1) (S 0 11) 0 (zr_ups p (S 0 11) 0 (zr_cp e 16 0 S)) 0 11 = S 0 11 := by rw [zr_rms_o (by decide) (by decide) (by decide), e2]
  have g4 := m_M_middle_g4 (d := d) (nx := nx) (kx := kx) (I0 := I0) (v1 := some (.int (nI p))) hM (show e + 1 < 21 by omega) (S 0 11) 0 _ o3 (by rw [e3, Nat.zero_add])
  simp (disch := first | assumption | omega | exact Nat.le_of_ble_eq_true rfl) only [q_M_middle, q_M_middle_0, q_M_middle_1, g1, g2, g3, g4, zr_mid]
