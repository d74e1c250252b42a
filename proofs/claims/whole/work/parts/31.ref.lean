/-! the reference: what the listener learns -/
def zr_lp (S : Nat → Nat → Nat) : Prop := S 0 0 ≤ 21 ∧ S 0 15 ≤ 640 ∧ (∀ m, m < S 0 15 → S 14 m < 121 ∧ (S 13 m < 1000 → 1 ≤ S 13 m ∧ S 13 m < 121) ∧ (1000 ≤ S 13 m → S 13 m < 1021)) ∧ ∀ e, 1 ≤ e → e < S 0 0 → S 5 e + 2 < 121
theorem zr_lp.same {S T : Nat → Nat → Nat} (h : zr_lp S) (g : ∀ k j, k ≠ 15 → k ≠ 16 → T k j = S k j) : zr_lp T := by
  unfold zr_lp
  rw [g 0 0 (by decide) (by decide), g 0 15 (by decide) (by decide)]
  refine ⟨h.1, h.2.1, fun m hm => ?_, fun e a b => ?_⟩
  · rw [g 14 m (by decide) (by decide), g 13 m (by decide) (by decide)]
    exact h.2.2.1 m hm
  · rw [g 5 e (by decide) (by decide)]
    exact h.2.2.2 e a b
theorem zr_lp.up {S : Nat → Nat → Nat} (h : zr_lp S) {k j v : Nat} (hk : k = 15 ∨ k = 16) : zr_lp (zq_up S k j v) :=
  h.same (fun a b h1 h2 => zq_up_o (by rcases hk with rfl | rfl <;> assumption))
theorem zq_ng_le : ∀ e, e < 21 → ((-(nI e) ≤ nI 0) = True) ∧ ((nI 0 < -(nI e)) = False) := by decide
theorem zq_ngng (e : Nat) : -(-(nI e)) = nI e := Int32.neg_neg
def zr_l1 : Nat → Nat → Nat → (Nat → Nat → Nat) → Nat × (Nat → Nat → Nat)
  | 0, _, mo, S => (mo, S)
  | c + 1, m, mo, S => if S 15 (S 14 m) = 0 then zr_l1 c (m + 1) mo S
    else if S 13 m < 1000 then zr_l1 c (m + 1) (if S 15 (S 13 m) = 0 then 1 else mo) (zq_up S 15 (S 13 m) 1)
    else zr_l1 c (m + 1) (if S 16 (S 13 m - 1000) = 0 then 1 else mo) (zq_up S 16 (S 13 m - 1000) 1)
theorem m_M_learn_g1 {d nx kx r : Nat} {sh : zq_S} {P : zq_P} {I0 : zq_I} (hM : zr_lay r sh P) : ∀ (c m mo : Nat) (S : Nat → Nat → Nat) (v3 v4 : Option Value), zr_bd S → zr_lp S → m + c = S 0 15 →
    ∃ v3' , zq_F d 99 4 [some (.ref r), some (.int (nI mo)), some (.int (nI m)), v3, v4] [] sh (zi r S I0) P nx kx = zq_F d 99 95 [some (.ref r), some (.int (nI (zr_l1 c m mo S).1)), some (.int (nI 1)), v3', v4] [] sh (zi r (zr_l1 c m mo S).2 I0) P nx kx
  | 0, m, mo, S, v3, v4, hS, hp, h => by
    have s0 := hM.1
    have h1 : S 0 15 ≤ m := by omega
    have h2 := hp.2.1
    refine ⟨v3, ?_⟩
    rw [q_M_learn_4]
    simp (disch := first | assumption | omega | exact Nat.le_of_ble_eq_true rfl) only [q_M_learn_5, q_M_learn_5n, q_M_learn_6, q_M_learn_9, q_M_learn_12, q_M_learn_12n, q_M_learn_13, q_M_learn_16, q_M_learn_16n, q_M_learn_17, q_M_learn_20, q_M_learn_21, q_M_learn_22, q_M_learn_23, q_M_learn_26, q_M_learn_29, q_M_learn_29n, q_M_learn_30, q_M_learn_33, q_M_learn_34, q_M_learn_35, q_M_learn_36, q_M_learn_37, q_M_learn_40, q_M_learn_40n, q_M_learn_41, q_M_learn_44, q_M_learn_45, q_M_learn_46, q_M_learn_49, q_M_learn_50, q_M_learn_53, q_M_learn_53n, q_M_learn_54, q_M_learn_57, q_M_learn_58, q_M_learn_59, q_M_learn_60, q_M_learn_63, q_M_learn_64, q_M_learn_65, q_M_learn_66, q_M_learn_69, q_M_learn_69n, q_M_learn_70, q_M_learn_73, q_M_learn_74, q_M_learn_75, q_M_learn_76, q_M_learn_79, q_M_learn_79n, q_M_learn_80, q_M_learn_83, q_M_learn_84, q_M_learn_85, q_M_learn_86, q_M_learn_87, q_M_learn_90, q_M_learn_93, q_M_learn_94, Option.bind_some, Option.toList_some, Option.toList_none, List.cons_append, List.nil_append, zq_rf_some, zq_rf_none, ↓reduceIte, zq_lt, zq_le, zq_eq, nI_add, zq_up_s, zq_up_o, zq_up_k, zq_b_eq0, Nat.reduceEqDiff, Nat.reduceLeDiff, Nat.reduceLT, Nat.reduceAdd, not_true_eq_false, not_false_eq_true, Nat.not_lt_zero, zq_on_lt, zq_os, false_or, or_false, or_self, Bool.false_eq_true, zi_1, zi_2, zi_3, zi_4, zi_5, zi_6, zi_7, zi_8, zi_9, zi_10, zi_11, zi_12, zi_14, zi_15, zi_16, zi_17, zi_18, zi_f0, zi_f1, zi_f11, zi_f15, zi_u1, zi_u2, zi_u3, zi_u4, zi_u5, zi_u6, zi_u7, zi_u8, zi_u9, zi_u10, zi_u11, zi_u12, zi_u14, zi_u15, zi_u16, zi_u17, zi_u18, zi_v0, zi_v1, zi_v11, zi_v15, h1, zr_l1]
  | c + 1, m, mo, S, v3, v4, hS, hp, h => by
    have h2 := hp.2.1
    have h1 : ¬ S 0 15 ≤ m := by omega
    obtain ⟨u1, u2, u3⟩ := hp.2.2.1 m (by omega)
    have b1 := hS.lt 15 (S 14 m)
    by_cases c1 : S 15 (S 14 m) = 0
    · obtain ⟨v3', ih⟩ := m_M_learn_g1 (d := d) (nx := nx) (kx := kx) (I0 := I0) hM c (m + 1) mo S v3 v4 hS hp (by omega)
      refine ⟨v3', ?_⟩
      obtain ⟨s0, t1, n1, t2, n2, t3, n3, t4, n4, t5, n5, t6, n6, t7, n7, t8, n8, t9, n9, t10, n10, t11, n11, t12, n12, t13, n13, t14, n14, t15, n15, t16, n16, t17, n17, t18, n18, p1, p2, p3, p4, p5, p6, p7, p8, p9, p10, p11, p12, p13, p14, p15, p16, p17, p18⟩ := id hM
      rw [q_M_learn_4]
      simp (disch := first | assumption | omega | exact Nat.le_of_ble_eq_true rfl) only [q_M_learn_5, q_M_learn_5n, q_M_learn_6, q_M_learn_9, q_M_learn_12, q_M_learn_12n, q_M_learn_13, q_M_learn_16, q_M_learn_16n, q_M_learn_17, q_M_learn_20, q_M_learn_21, q_M_learn_22, q_M_learn_23, q_M_learn_26, q_M_learn_29, q_M_learn_29n, q_M_learn_30, q_M_learn_33, q_M_learn_34, q_M_learn_35, q_M_learn_36, q_M_learn_37, q_M_learn_40, q_M_learn_40n, q_M_learn_41, q_M_learn_44, q_M_learn_45, q_M_learn_46, q_M_learn_49, q_M_learn_50, q_M_learn_53, q_M_learn_53n, q_M_learn_54, q_M_learn_57, q_M_learn_58, q_M_learn_59, q_M_learn_60, q_M_learn_63, q_M_learn_64, q_M_learn_65, q_M_learn_66, q_M_learn_69, q_M_learn_69n, q_M_learn_70, q_M_learn_73, q_M_learn_74, q_M_learn_75, q_M_learn_76, q_M_learn_79, q_M_learn_79n, q_M_learn_80, q_M_learn_83, q_M_learn_84, q_M_learn_85, q_M_learn_86, q_M_learn_87, q_M_learn_90, q_M_learn_93, q_M_learn_94, Option.bind_some, Option.toList_some, Option.toList_none, List.cons_append, List.nil_append, zq_rf_some, zq_rf_none, ↓reduceIte, zq_lt, zq_le, zq_eq, nI_add, zq_up_s, zq_up_o, zq_up_k, zq_b_eq0, Nat.reduceEqDiff, Nat.reduceLeDiff, Nat.reduceLT, Nat.reduceAdd, not_true_eq_false, not_false_eq_true, Nat.not_lt_zero, zq_on_lt, zq_os, false_or, or_false, or_self, Bool.false_eq_true, p1, p2, p3, p4, p5, p6, p7, p8, p9, p10, p11, p12, p13, p14, p15, p16, p17, p18, zi_1, zi_2, zi_3, zi_4, zi_5, zi_6, zi_7, zi_8, zi_9, zi_10, zi_11, zi_12, zi_14, zi_15, zi_16, zi_17, zi_18, zi_f0, zi_f1, zi_f11, zi_f15, zi_u1, zi_u2, zi_u3, zi_u4, zi_u5, zi_u6, zi_u7, zi_u8, zi_u9, zi_u10, zi_u11, zi_u12, zi_u14, zi_u15, zi_u16, zi_u17, zi_u18, zi_v0, zi_v1, zi_v11, zi_v15, h1, c1, zr_l1, ih]
    · by_cases c2 : S 13 m < 1000
      · obtain ⟨w1, w2⟩ := u2 c2
        have e13 := zi_13 (r := r) (I0 := I0) (j := m) (S := S) c2
        have b2 := hS.lt 15 (S 13 m)
        have w3 : ¬ S 13 m ≤ 0 := by omega
        have w4 : 0 < S 13 m := by omega
        by_cases c3 : S 15 (S 13 m) = 0
        · obtain ⟨v3', ih⟩ := m_M_learn_g1 (d := d) (nx := nx) (kx := kx) (I0 := I0) hM c (m + 1) 1 (zq_up S 15 (S 13 m) 1) (some (.int (nI (S 13 m)))) v4 (hS.up (by decide)) (hp.up (Or.inl rfl)) (by rw [zq_up_o (by decide)]; omega)
          refine ⟨v3', ?_⟩
          obtain ⟨s0, t1, n1, t2, n2, t3, n3, t4, n4, t5, n5, t6, n6, t7, n7, t8, n8, t9, n9, t10, n10, t11, n11, t12, n12, t13, n13, t14, n14, t15, n15, t16, n16, t17, n17, t18, n18, p1, p2, p3, p4, p5, p6, p7, p8, p9, p10, p11, p12, p13, p14, p15, p16, p17, p18⟩ := id hM
          rw [q_M_learn_4]
          simp (disch := first | assumption | omega | exact Nat.le_of_ble_eq_true rfl) only [q_M_learn_5, q_M_learn_5n, q_M_learn_6, q_M_learn_9, q_M_learn_12, q_M_learn_12n, q_M_learn_13, q_M_learn_16, q_M_learn_16n, q_M_learn_17, q_M_learn_20, q_M_learn_21, q_M_learn_22, q_M_learn_23, q_M_learn_26, q_M_learn_29, q_M_learn_29n, q_M_learn_30, q_M_learn_33, q_M_learn_34, q_M_learn_35, q_M_learn_36, q_M_learn_37, q_M_learn_40, q_M_learn_40n, q_M_learn_41, q_M_learn_44, q_M_learn_45, q_M_learn_46, q_M_learn_49, q_M_learn_50, q_M_learn_53, q_M_learn_53n, q_M_learn_54, q_M_learn_57, q_M_learn_58, q_M_learn_59, q_M_learn_60, q_M_learn_63, q_M_learn_64, q_M_learn_65, q_M_learn_66, q_M_learn_69, q_M_learn_69n, q_M_learn_70, q_M_learn_73, q_M_learn_74, q_M_learn_75, q_M_learn_76, q_M_learn_79, q_M_learn_79n, q_M_learn_80, q_M_learn_83, q_M_learn_84, q_M_learn_85, q_M_learn_86, q_M_learn_87, q_M_learn_90, q_M_learn_93, q_M_learn_94, Option.bind_some, Option.toList_some, Option.toList_none, List.cons_append, List.nil_append, zq_rf_some, zq_rf_none, ↓reduceIte, zq_lt, zq_le, zq_eq, nI_add, zq_up_s, zq_up_o, zq_up_k, zq_b_eq0, Nat.reduceEqDiff, Nat.reduceLeDiff, Nat.reduceLT, Nat.reduceAdd, not_true_eq_false, not_false_eq_true, Nat.not_lt_zero, zq_on_lt, zq_os, false_or, or_false, or_self, Bool.false_eq_true, p1, p2, p3, p4, p5, p6, p7, p8, p9, p10, p11, p12, p13, p14, p15, p16, p17, p18, zi_1, zi_2, zi_3, zi_4, zi_5, zi_6, zi_7, zi_8, zi_9, zi_10, zi_11, zi_12, zi_14, zi_15, zi_16, zi_17, zi_18, zi_f0, zi_f1, zi_f11, zi_f15, zi_u1, zi_u2, zi_u3, zi_u4, zi_u5, zi_u6, zi_u7, zi_u8, zi_u9, zi_u10, zi_u11, zi_u12, zi_u14, zi_u15, zi_u16, zi_u17, zi_u18, zi_v0, zi_v1, zi_v11, zi_v15, h1, c1, c2, c3, e13, w3, w4, zq_and1, zr_l1, ih]
        · obtain ⟨v3', ih⟩ := m_M_learn_g1 (d := d) (nx := nx) (kx := kx) (I0 := I0) hM c (m + 1) mo (zq_up S 15 (S 13 m) 1) (some (.int (nI (S 13 m)))) v4 (hS.up (by decide)) (hp.up (Or.inl rfl)) (by rw [zq_up_o (by decide)]; omega)
          refine ⟨v3', ?_⟩
          obtain ⟨s0, t1, n1, t2, n2, t3, n3, t4, n4, t5, n5, t6, n6, t7, n7, t8, n8, t9, n9, t10, n10, t11, n11, t12, n12, t13, n13, t14, n14, t15, n15, t16, n16, t17, n17, t18, n18, p1, p2, p3, p4, p5, p6, p7, p8, p9, p10, p11, p12, p13, p14, p15, p16, p17, p18⟩ := id hM
          rw [q_M_learn_4]
          simp (disch := first | assumption | omega | exact Nat.le_of_ble_eq_true rfl) only [q_M_learn_5, q_M_learn_5n, q_M_learn_6, q_M_learn_9, q_M_learn_12, q_M_learn_12n, q_M_learn_13, q_M_learn_16, q_M_learn_16n, q_M_learn_17, q_M_learn_20, q_M_learn_21, q_M_learn_22, q_M_learn_23, q_M_learn_26, q_M_learn_29, q_M_learn_29n, q_M_learn_30, q_M_learn_33, q_M_learn_34, q_M_learn_35, q_M_learn_36, q_M_learn_37, q_M_learn_40, q_M_learn_40n, q_M_learn_41, q_M_learn_44, q_M_learn_45, q_M_learn_46, q_M_learn_49, q_M_learn_50, q_M_learn_53, q_M_learn_53n, q_M_learn_54, q_M_learn_57, q_M_learn_58, q_M_learn_59, q_M_learn_60, q_M_learn_63, q_M_learn_64, q_M_learn_65, q_M_learn_66, q_M_learn_69, q_M_learn_69n, q_M_learn_70, q_M_learn_73, q_M_learn_74, q_M_learn_75, q_M_learn_76, q_M_learn_79, q_M_learn_79n, q_M_learn_80, q_M_learn_83, q_M_learn_84, q_M_learn_85, q_M_learn_86, q_M_learn_87, q_M_learn_90, q_M_learn_93, q_M_learn_94, Option.bind_some, Option.toList_some, Option.toList_none, List.cons_append, List.nil_append, zq_rf_some, zq_rf_none, ↓reduceIte, zq_lt, zq_le, zq_eq, nI_add, zq_up_s, zq_up_o, zq_up_k, zq_b_eq0, Nat.reduceEqDiff, Nat.reduceLeDiff, Nat.reduceLT, Nat.reduceAdd, not_true_eq_false, not_false_eq_true, Nat.not_lt_zero, zq_on_lt, zq_os, false_or, or_false, or_self, Bool.false_eq_true, p1, p2, p3, p4, p5, p6, p7, p8, p9, p10, p11, p12, p13, p14, p15, p16, p17, p18, zi_1, zi_2, zi_3, zi_4, zi_5, zi_6, zi_7, zi_8, zi_9, zi_10, zi_11, zi_12, zi_14, zi_15, zi_16, zi_17, zi_18, zi_f0, zi_f1, zi_f11, zi_f15, zi_u1, zi_u2, zi_u3, zi_u4, zi_u5, zi_u6, zi_u7, zi_u8, zi_u9, zi_u10, zi_u11, zi_u12, zi_u14, zi_u15, zi_u16, zi_u17, zi_u18, zi_v0, zi_v1, zi_v11, zi_v15, h1, c1, c2, c3, e13, w3, w4, zq_and1, zr_l1, ih]
      · have w1 := u3 (by omega)
        obtain ⟨e, he⟩ : ∃ e, S 13 m = 1000 + e := ⟨S 13 m - 1000, by omega⟩
        have e13 := zi_13n (r := r) (I0 := I0) (j := m) (S := S) he
        have es : S 13 m - 1000 = e := by omega
        obtain ⟨ng1, ng2⟩ := zq_ng_le e (by omega)
        have b2 := hS.lt 16 e
        by_cases c3 : S 16 e = 0
        · obtain ⟨v3', ih⟩ := m_M_learn_g1 (d := d) (nx := nx) (kx := kx) (I0 := I0) hM c (m + 1) 1 (zq_up S 16 e 1) (some (.int (-(nI e)))) v4 (hS.up (by decide)) (hp.up (Or.inr rfl)) (by rw [zq_up_o (by decide)]; omega)
          refine ⟨v3', ?_⟩
          obtain ⟨s0, t1, n1, t2, n2, t3, n3, t4, n4, t5, n5, t6, n6, t7, n7, t8, n8, t9, n9, t10, n10, t11, n11, t12, n12, t13, n13, t14, n14, t15, n15, t16, n16, t17, n17, t18, n18, p1, p2, p3, p4, p5, p6, p7, p8, p9, p10, p11, p12, p13, p14, p15, p16, p17, p18⟩ := id hM
          rw [q_M_learn_4]
          simp (disch := first | assumption | omega | exact Nat.le_of_ble_eq_true rfl) only [q_M_learn_5, q_M_learn_5n, q_M_learn_6, q_M_learn_9, q_M_learn_12, q_M_learn_12n, q_M_learn_13, q_M_learn_16, q_M_learn_16n, q_M_learn_17, q_M_learn_20, q_M_learn_21, q_M_learn_22, q_M_learn_23, q_M_learn_26, q_M_learn_29, q_M_learn_29n, q_M_learn_30, q_M_learn_33, q_M_learn_34, q_M_learn_35, q_M_learn_36, q_M_learn_37, q_M_learn_40, q_M_learn_40n, q_M_learn_41, q_M_learn_44, q_M_learn_45, q_M_learn_46, q_M_learn_49, q_M_learn_50, q_M_learn_53, q_M_learn_53n, q_M_learn_54, q_M_learn_57, q_M_learn_58, q_M_learn_59, q_M_learn_60, q_M_learn_63, q_M_learn_64, q_M_learn_65, q_M_learn_66, q_M_learn_69, q_M_learn_69n, q_M_learn_70, q_M_learn_73, q_M_learn_74, q_M_learn_75, q_M_learn_76, q_M_learn_79, q_M_learn_79n, q_M_learn_80, q_M_learn_83, q_M_learn_84, q_M_learn_85, q_M_learn_86, q_M_learn_87, q_M_learn_90, q_M_learn_93, q_M_learn_94, Option.bind_some, Option.toList_some, Option.toList_none, List.cons_append, List.nil_append, zq_rf_some, zq_rf_none, ↓reduceIte, zq_lt, zq_le, zq_eq, nI_add, zq_up_s, zq_up_o, zq_up_k, zq_b_eq0, Nat.reduceEqDiff, Nat.reduceLeDiff, Nat.reduceLT, Nat.reduceAdd, not_true_eq_false, not_false_eq_true, Nat.not_lt_zero, zq_on_lt, zq_os, false_or, or_false, or_self, Bool.false_eq_true, p1, p2, p3, p4, p5, p6, p7, p8, p9, p10, p11, p12, p13, p14, p15, p16, p17, p18, zi_1, zi_2, zi_3, zi_4, zi_5, zi_6, zi_7, zi_8, zi_9, zi_10, zi_11, zi_12, zi_14, zi_15, zi_16, zi_17, zi_18, zi_f0, zi_f1, zi_f11, zi_f15, zi_u1, zi_u2, zi_u3, zi_u4, zi_u5, zi_u6, zi_u7, zi_u8, zi_u9, zi_u10, zi_u11, zi_u12, zi_u14, zi_u15, zi_u16, zi_u17, zi_u18, zi_v0, zi_v1, zi_v11, zi_v15, h1, c1, c2, es, c3, e13, ng1, ng2, zq_ngng, zq_and1, zr_l1, ih]
        · obtain ⟨v3', ih⟩ := m_M_learn_g1 (d := d) (nx := nx) (kx := kx) (I0 := I0) hM c (m + 1) mo (zq_up S 16 e 1) (some (.int (-(nI e)))) v4 (hS.up (by decide)) (hp.up (Or.inr rfl)) (by rw [zq_up_o (by decide)]; omega)
          refine ⟨v3', ?_⟩
          obtain ⟨s0, t1, n1, t2, n2, t3, n3, t4, n4, t5, n5, t6, n6, t7, n7, t8, n8, t9, n9, t10, n10, t11, n11, t12, n12, t13, n13, t14, n14, t15, n15, t16, n16, t17, n17, t18, n18, p1, p2, p3, p4, p5, p6, p7, p8, p9, p10, p11, p12, p13, p14, p15, p16, p17, p18⟩ := id hM
          rw [q_M_learn_4]
          simp (disch := first | assumption | omega | exact Nat.le_of_ble_eq_true rfl) only [q_M_learn_5, q_M_learn_5n, q_M_learn_6, q_M_learn_9, q_M_learn_12, q_M_learn_12n, q_M_learn_13, q_M_learn_16, q_M_learn_16n, q_M_learn_17, q_M_learn_20, q_M_learn_21, q_M_learn_22, q_M_learn_23, q_M_learn_26, q_M_learn_29, q_M_learn_29n, q_M_learn_30, q_M_learn_33, q_M_learn_34, q_M_learn_35, q_M_learn_36, q_M_learn_37, q_M_learn_40, q_M_learn_40n, q_M_learn_41, q_M_learn_44, q_M_learn_45, q_M_learn_46, q_M_learn_49, q_M_learn_50, q_M_learn_53, q_M_learn_53n, q_M_learn_54, q_M_learn_57, q_M_learn_58, q_M_learn_59, q_M_learn_60, q_M_learn_63, q_M_learn_64, q_M_learn_65, q_M_learn_66, q_M_learn_69, q_M_learn_69n, q_M_learn_70, q_M_learn_73, q_M_learn_74, q_M_learn_75, q_M_learn_76, q_M_learn_79, q_M_learn_79n, q_M_learn_80, q_M_learn_83, q_M_learn_84, q_M_learn_85, q_M_learn_86, q_M_learn_87, q_M_learn_90, q_M_learn_93, q_M_learn_94, Option.bind_some, Option.toList_some, Option.toList_none, List.cons_append, List.nil_append, zq_rf_some, zq_rf_none, ↓reduceIte, zq_lt, zq_le, zq_eq, nI_add, zq_up_s, zq_up_o, zq_up_k, zq_b_eq0, Nat.reduceEqDiff, Nat.reduceLeDiff, Nat.reduceLT, Nat.reduceAdd, not_true_eq_false, not_false_eq_true, Nat.not_lt_zero, zq_on_lt, zq_os, false_or, or_false, or_self, Bool.false_eq_true, p1, p2, p3, p4, p5, p6, p7, p8, p9, p10, p11, p12, p13, p14, p15, p16, p17, p18, zi_1, zi_2, zi_3, zi_4, zi_5, zi_6, zi_7, zi_8, zi_9, zi_10, zi_11, zi_12, zi_14, zi_15, zi_16, zi_17, zi_18, zi_f0, zi_f1, zi_f11, zi_f15, zi_u1, zi_u2, zi_u3, zi_u4, zi_u5, zi_u6, zi_u7, zi_u8, zi_u9, zi_u10, zi_u11, zi_u12, zi_u14, zi_u15, zi_u16, zi_u17, zi_u18, zi_v0, zi_v1, zi_v11, zi_v15, h1, c1, c2, es, c3, e13, ng1, ng2, zq_ngng, zq_and1, zr_l1, ih]
def zr_k1 (mo : Nat) (S : Nat → Nat → Nat) (k : Nat) : Nat × (Nat → Nat → Nat) := if S 15 k = 0 then (mo, S) else (if S 15 (k + 1) = 0 then 1 else mo, zq_up S 15 (k + 1) 1)
theorem zr_k1_o {mo k a j : Nat} {S : Nat → Nat → Nat} (h : a ≠ 15) : (zr_k1 mo S k).2 a j = S a j := by
  unfold zr_k1
  split
  · rfl
  · exact zq_up_o h
theorem zr_k1_bd {mo k : Nat} {S : Nat → Nat → Nat} (h : zr_bd S) : zr_bd (zr_k1 mo S k).2 := by
  unfold zr_k1
  split
  · exact h
  · exact h.up (by decide)
theorem m_M_learn_k {d nx kx r mo k p : Nat} {sh : zq_S} {P : zq_P} {S : Nat → Nat → Nat} {I0 : zq_I} (hM : zr_lay r sh P) (hS : zr_bd S) {v2 : Option Value} (hk : ¬ p + 2 ≤ k) (hp : p + 2 < 121) : zq_F d 99 113 [some (.ref r), some (.int (nI mo)), v2, some (.int (nI p)), some (.int (nI k))] [] sh (zi r S I0) P nx kx = zq_F d 99 113 [some (.ref r), some (.int (nI (zr_k1 mo S k).1)), v2, some (.int (nI p)), some (.int (nI (k + 1)))] [] sh (zi r (zr_k1 mo S k).2 I0) P nx kx := by
  have b1 := hS.lt 15 k
  have b2 := hS.lt 15 (k + 1)
  obtain ⟨s0, t1, n1, t2, n2, t3, n3, t4, n4, t5, n5, t6, n6, t7, n7, t8, n8, t9, n9, t10, n10, t11, n11, t12, n12, t13, n13, t14, n14, t15, n15, t16, n16, t17, n17, t18, n18, p1, p2, p3, p4, p5, p6, p7, p8, p9, p10, p11, p12, p13, p14, p15, p16, p17, p18⟩ := id hM
  by_cases c1 : S 15 k = 0
  · conv => lhs; rw [q_M_learn_113]
    simp (disch := first | assumption | omega | exact Nat.le_of_ble_eq_true rfl) only [q_M_learn_115, q_M_learn_116, q_M_learn_117, q_M_learn_118, q_M_learn_121, q_M_learn_121n, q_M_learn_122, q_M_learn_125, q_M_learn_127, q_M_learn_128, q_M_learn_131, q_M_learn_131n, q_M_learn_132, q_M_learn_135, q_M_learn_137, q_M_learn_138, q_M_learn_139, q_M_learn_140, q_M_learn_143, q_M_learn_144, q_M_learn_145, q_M_learn_145n, q_M_learn_146, q_M_learn_149, q_M_learn_151, q_M_learn_152, q_M_learn_155, q_M_learn_155n, q_M_learn_156, q_M_learn_159, q_M_learn_161, q_M_learn_162, q_M_learn_163, q_M_learn_164, q_M_learn_165, q_M_learn_168, Option.bind_some, Option.toList_some, Option.toList_none, List.cons_append, List.nil_append, zq_rf_some, zq_rf_none, ↓reduceIte, zq_lt, zq_le, zq_eq, nI_add, zq_up_s, zq_up_o, zq_up_k, zq_b_eq0, Nat.reduceEqDiff, Nat.reduceLeDiff, Nat.reduceLT, Nat.reduceAdd, not_true_eq_false, not_false_eq_true, Nat.not_lt_zero, zq_on_lt, zq_os, false_or, or_false, or_self, Bool.false_eq_true, p1, p2, p3, p4, p5, p6, p7, p8, p9, p10, p11, p12, p13, p14, p15, p16, p17, p18, zi_1, zi_2, zi_3, zi_4, zi_5, zi_6, zi_7, zi_8, zi_9, zi_10, zi_11, zi_12, zi_14, zi_15, zi_16, zi_17, zi_18, zi_f0, zi_f1, zi_f11, zi_f15, zi_u1, zi_u2, zi_u3, zi_u4, zi_u5, zi_u6, zi_u7, zi_u8, zi_u9, zi_u10, zi_u11, zi_u12, zi_u14, zi_u15, zi_u16, zi_u17, zi_u18, zi_v0, zi_v1, zi_v11, zi_v15, hk, c1, zr_k1]
  · by_cases c2 : S 15 (k + 1) = 0
    · conv => lhs; rw [q_M_learn_113]
      simp (disch := first | assumption | omega | exact Nat.le_of_ble_eq_true rfl) only [q_M_learn_115, q_M_learn_116, q_M_learn_117, q_M_learn_118, q_M_learn_121, q_M_learn_121n, q_M_learn_122, q_M_learn_125, q_M_learn_127, q_M_learn_128, q_M_learn_131, q_M_learn_131n, q_M_learn_132, q_M_learn_135, q_M_learn_137, q_M_learn_138, q_M_learn_139, q_M_learn_140, q_M_learn_143, q_M_learn_144, q_M_learn_145, q_M_learn_145n, q_M_learn_146, q_M_learn_149, q_M_learn_151, q_M_learn_152, q_M_learn_155, q_M_learn_155n, q_M_learn_156, q_M_learn_159, q_M_learn_161, q_M_learn_162, q_M_learn_163, q_M_learn_164, q_M_learn_165, q_M_learn_168, Option.bind_some, Option.toList_some, Option.toList_none, List.cons_append, List.nil_append, zq_rf_some, zq_rf_none, ↓reduceIte, zq_lt, zq_le, zq_eq, nI_add, zq_up_s, zq_up_o, zq_up_k, zq_b_eq0, Nat.reduceEqDiff, Nat.reduceLeDiff, Nat.reduceLT, Nat.reduceAdd, not_true_eq_false, not_false_eq_true, Nat.not_lt_zero, zq_on_lt, zq_os, false_or, or_false, or_self, Bool.false_eq_true, p1, p2, p3, p4, p5, p6, p7, p8, p9, p10, p11, p12, p13, p14, p15, p16, p17, p18, zi_1, zi_2, zi_3, zi_4, zi_5, zi_6, zi_7, zi_8, zi_9, zi_10, zi_11, zi_12, zi_14, zi_15, zi_16, zi_17, zi_18, zi_f0, zi_f1, zi_f11, zi_f15, zi_u1, zi_u2, zi_u3, zi_u4, zi_u5, zi_u6, zi_u7, zi_u8, zi_u9, zi_u10, zi_u11, zi_u12, zi_u14, zi_u15, zi_u16, zi_u17, zi_u18, zi_v0, zi_v1, zi_v11, zi_v15, hk, c1, c2, zr_k1, zq_and1]
    · conv => lhs; rw [q_M_learn_113]
      simp (disch := first | assumption | omega | exact Nat.le_of_ble_eq_true rfl) only [q_M_learn_115, q_M_learn_116, q_M_learn_117, q_M_learn_118, q_M_learn_121, q_M_learn_121n, q_M_learn_122, q_M_learn_125, q_M_learn_127, q_M_learn_128, q_M_learn_131, q_M_learn_131n, q_M_learn_132, q_M_learn_135, q_M_learn_137, q_M_learn_138, q_M_learn_139, q_M_learn_140, q_M_learn_143, q_M_learn_144, q_M_learn_145, q_M_learn_145n, q_M_learn_146, q_M_learn_149, q_M_learn_151, q_M_learn_152, q_M_learn_155, q_M_learn_155n, q_M_learn_156, q_M_learn_159, q_M_learn_161, q_M_learn_162, q_M_learn_163, q_M_learn_164, q_M_learn_165, q_M_learn_168, Option.bind_some, Option.toList_some, Option.toList_none, List.cons_append, List.nil_append, zq_rf_some, zq_rf_none, ↓reduceIte, zq_lt, zq_le, zq_eq, nI_add, zq_up_s, zq_up_o, zq_up_k, zq_b_eq0, Nat.reduceEqDiff, Nat.reduceLeDiff, Nat.reduceLT, Nat.reduceAdd, not_true_eq_false, not_false_eq_true, Nat.not_lt_zero, zq_on_lt, zq_os, false_or, or_false, or_self, Bool.false_eq_true, p1, p2, p3, p4, p5, p6, p7, p8, p9, p10, p11, p12, p13, p14, p15, p16, p17, p18, zi_1, zi_2, zi_3, zi_4, zi_5, zi_6, zi_7, zi_8, zi_9, zi_10, zi_11, zi_12, zi_14, zi_15, zi_16, zi_17, zi_18, zi_f0, zi_f1, zi_f11, zi_f15, zi_u1, zi_u2, zi_u3, zi_u4, zi_u5, zi_u6, zi_u7, zi_u8, zi_u9, zi_u10, zi_u11, zi_u12, zi_u14, zi_u15, zi_u16, zi_u17, zi_u18, zi_v0, zi_v1, zi_v11, zi_v15, hk, c1, c2, zr_k1, zq_and1]
def zr_l2s (e mo : Nat) (S : Nat → Nat → Nat) : Nat × (Nat → Nat → Nat) :=
  if (zr_k1 (zr_k1 mo S (S 5 e)).1 (zr_k1 mo S (S 5 e)).2 (S 5 e + 1)).2 16 e = 0 ∧ ¬ (zr_k1 (zr_k1 mo S (S 5 e)).1 (zr_k1 mo S (S 5 e)).2 (S 5 e + 1)).2 16 (e - 1) = 0 ∧ ¬ (zr_k1 (zr_k1 mo S (S 5 e)).1 (zr_k1 mo S (S 5 e)).2 (S 5 e + 1)).2 15 (S 5 e + 2) = 0 then (1, zq_up (zr_k1 (zr_k1 mo S (S 5 e)).1 (zr_k1 mo S (S 5 e)).2 (S 5 e + 1)).2 16 e 1) else zr_k1 (zr_k1 mo S (S 5 e)).1 (zr_k1 mo S (S 5 e)).2 (S 5 e + 1)
theorem zr_l2s_o {e mo a j : Nat} {S : Nat → Nat → Nat} (h : a ≠ 15) (h6 : a ≠ 16) : (zr_l2s e mo S).2 a j = S a j := by
  unfold zr_l2s
  split
  · dsimp only
    rw [zq_up_o h6, zr_k1_o h, zr_k1_o h]
  · rw [zr_k1_o h, zr_k1_o h]
theorem zr_l2s_bd {e mo : Nat} {S : Nat → Nat → Nat} (h : zr_bd S) : zr_bd (zr_l2s e mo S).2 := by
  unfold zr_l2s
  split
  · exact (zr_k1_bd (zr_k1_bd h)).up (by decide)
  · exact zr_k1_bd (zr_k1_bd h)
theorem m_M_learn_e {d nx kx r mo e : Nat} {sh : zq_S} {P : zq_P} {S : Nat → Nat → Nat} {I0 : zq_I} (hM : zr_lay r sh P) (hS : zr_bd S) (hp : zr_lp S) (he : 1 ≤ e) (he2 : e < S 0 0) {v3 v4 : Option Value} :
    zq_F d 99 95 [some (.ref r), some (.int (nI mo)), some (.int (nI e)), v3, v4] [] sh (zi r S I0) P nx kx = zq_F d 99 95 [some (.ref r), some (.int (nI (zr_l2s e mo S).1)), some (.int (nI (e + 1))), some (.int (nI (S 5 e))), some (.int (nI (S 5 e + 2)))] [] sh (zi r (zr_l2s e mo S).2 I0) P nx kx := by
  have hne := hp.1
  have p2 := hp.2.2.2 e he he2
  have h1 : ¬ S 0 0 ≤ e := by omega
  have k1 := m_M_learn_k (d := d) (nx := nx) (kx := kx) (I0 := I0) (mo := mo) (v2 := some (.int (nI e))) hM hS (k := S 5 e) (p := S 5 e) (by omega) p2
  have k2 := m_M_learn_k (d := d) (nx := nx) (kx := kx) (I0 := I0) (mo := (zr_k1 mo S (S 5 e)).1) (v2 := some (.int (nI e))) hM (zr_k1_bd (mo := mo) (k := S 5 e) hS) (k := S 5 e + 1) (p := S 5 e) (by omega) p2
  obtain ⟨e', rfl⟩ : ∃ e', e = e' + 1 := ⟨e - 1, by omega⟩
  unfold zr_l2s
  generalize hQ : zr_k1 (zr_k1 mo S (S 5 (e' + 1))).1 (zr_k1 mo S (S 5 (e' + 1))).2 (S 5 (e' + 1) + 1) = Q at k2 ⊢
  have hQb : zr_bd Q.2 := by rw [← hQ]; exact zr_k1_bd (zr_k1_bd hS)
  obtain ⟨mo2, S2⟩ := Q
  dsimp only at k2 hQb ⊢
  have b1 := hQb.lt 16 (e' + 1)
  have b2 := hQb.lt 16 e'
  have b3 := hQb.lt 15 (S 5 (e' + 1) + 2)
  rw [Nat.add_sub_cancel]
  have hx : S 5 (e' + 1) + 2 ≤ S 5 (e' + 1) + 1 + 1 := by omega
  obtain ⟨s0, t1, n1, t2, n2, t3, n3, t4, n4, t5, n5, t6, n6, t7, n7, t8, n8, t9, n9, t10, n10, t11, n11, t12, n12, t13, n13, t14, n14, t15, n15, t16, n16, t17, n17, t18, n18, p1, p2, p3, p4, p5, p6, p7, p8, p9, p10, p11, p12, p13, p14, p15, p16, p17, p18⟩ := id hM
  conv => lhs; rw [q_M_learn_95]
  simp (disch := first | assumption | omega | exact Nat.le_of_ble_eq_true rfl) only [q_M_learn_96, q_M_learn_96n, q_M_learn_97, q_M_learn_100, q_M_learn_103, q_M_learn_103n, q_M_learn_104, q_M_learn_107, q_M_learn_108, q_M_learn_109, q_M_learn_110, q_M_learn_111, Option.bind_some, Option.toList_some, Option.toList_none, List.cons_append, List.nil_append, zq_rf_some, zq_rf_none, ↓reduceIte, zq_lt, zq_le, zq_eq, nI_add, zq_up_s, zq_up_o, zq_up_k, zq_b_eq0, Nat.reduceEqDiff, Nat.reduceLeDiff, Nat.reduceLT, Nat.reduceAdd, not_true_eq_false, not_false_eq_true, Nat.not_lt_zero, zq_on_lt, zq_os, false_or, or_false, or_self, Bool.false_eq_true, p1, p2, p3, p4, p5, p6, p7, p8, p9, p10, p11, p12, p13, p14, p15, p16, p17, p18, zi_1, zi_2, zi_3, zi_4, zi_5, zi_6, zi_7, zi_8, zi_9, zi_10, zi_11, zi_12, zi_14, zi_15, zi_16, zi_17, zi_18, zi_f0, zi_f1, zi_f11, zi_f15, zi_u1, zi_u2, zi_u3, zi_u4, zi_u5, zi_u6, zi_u7, zi_u8, zi_u9, zi_u10, zi_u11, zi_u12, zi_u14, zi_u15, zi_u16, zi_u17, zi_u18, zi_v0, zi_v1, zi_v11, zi_v15, zq_ne_gt, h1, k1, k2]
  conv => lhs; rw [q_M_learn_113]
  by_cases c1 : S2 16 (e' + 1) = 0
  · by_cases c2 : S2 16 e' = 0
    · simp (disch := first | assumption | omega | exact Nat.le_of_ble_eq_true rfl) only [q_M_learn_115, q_M_learn_116, q_M_learn_117, q_M_learn_118, q_M_learn_121, q_M_learn_121n, q_M_learn_122, q_M_learn_125, q_M_learn_127, q_M_learn_128, q_M_learn_131, q_M_learn_131n, q_M_learn_132, q_M_learn_135, q_M_learn_137, q_M_learn_138, q_M_learn_139, q_M_learn_140, q_M_learn_143, q_M_learn_144, q_M_learn_145, q_M_learn_145n, q_M_learn_146, q_M_learn_149, q_M_learn_151, q_M_learn_152, q_M_learn_155, q_M_learn_155n, q_M_learn_156, q_M_learn_159, q_M_learn_161, q_M_learn_162, q_M_learn_163, q_M_learn_164, q_M_learn_165, q_M_learn_168, q_M_learn_171, q_M_learn_171n, q_M_learn_172, q_M_learn_175, q_M_learn_176, q_M_learn_177, q_M_learn_180, q_M_learn_180n, q_M_learn_181, q_M_learn_184, q_M_learn_185, q_M_learn_186, q_M_learn_187, q_M_learn_188, q_M_learn_191, q_M_learn_191n, q_M_learn_192, q_M_learn_195, q_M_learn_196, q_M_learn_197, q_M_learn_198, q_M_learn_199, q_M_learn_202, q_M_learn_202n, q_M_learn_203, q_M_learn_206, q_M_learn_207, q_M_learn_208, q_M_learn_209, q_M_learn_210, q_M_learn_211, q_M_learn_214, Option.bind_some, Option.toList_some, Option.toList_none, List.cons_append, List.nil_append, zq_rf_some, zq_rf_none, ↓reduceIte, zq_lt, zq_le, zq_eq, nI_add, zq_up_s, zq_up_o, zq_up_k, zq_b_eq0, Nat.reduceEqDiff, Nat.reduceLeDiff, Nat.reduceLT, Nat.reduceAdd, not_true_eq_false, not_false_eq_true, Nat.not_lt_zero, zq_on_lt, zq_os, false_or, or_false, or_self, Bool.false_eq_true, p1, p2, p3, p4, p5, p6, p7, p8, p9, p10, p11, p12, p13, p14, p15, p16, p17, p18, zi_1, zi_2, zi_3, zi_4, zi_5, zi_6, zi_7, zi_8, zi_9, zi_10, zi_11, zi_12, zi_14, zi_15, zi_16, zi_17, zi_18, zi_f0, zi_f1, zi_f11, zi_f15, zi_u1, zi_u2, zi_u3, zi_u4, zi_u5, zi_u6, zi_u7, zi_u8, zi_u9, zi_u10, zi_u11, zi_u12, zi_u14, zi_u15, zi_u16, zi_u17, zi_u18, zi_v0, zi_v1, zi_v11, zi_v15, hx, c1, c2, zq_pred, not_true_eq_false, false_and, and_false]
    · by_cases c3 : S2 15 (S 5 (e' + 1) + 2) = 0
      · simp (disch := first | assumption | omega | exact Nat.le_of_ble_eq_true rfl) only [q_M_learn_115, q_M_learn_116, q_M_learn_117, q_M_learn_118, q_M_learn_121, q_M_learn_121n, q_M_learn_122, q_M_learn_125, q_M_learn_127, q_M_learn_128, q_M_learn_131, q_M_learn_131n, q_M_learn_132, q_M_learn_135, q_M_learn_137, q_M_learn_138, q_M_learn_139, q_M_learn_140, q_M_learn_143, q_M_learn_144, q_M_learn_145, q_M_learn_145n, q_M_learn_146, q_M_learn_149, q_M_learn_151, q_M_learn_152, q_M_learn_155, q_M_learn_155n, q_M_learn_156, q_M_learn_159, q_M_learn_161, q_M_learn_162, q_M_learn_163, q_M_learn_164, q_M_learn_165, q_M_learn_168, q_M_learn_171, q_M_learn_171n, q_M_learn_172, q_M_learn_175, q_M_learn_176, q_M_learn_177, q_M_learn_180, q_M_learn_180n, q_M_learn_181, q_M_learn_184, q_M_learn_185, q_M_learn_186, q_M_learn_187, q_M_learn_188, q_M_learn_191, q_M_learn_191n, q_M_learn_192, q_M_learn_195, q_M_learn_196, q_M_learn_197, q_M_learn_198, q_M_learn_199, q_M_learn_202, q_M_learn_202n, q_M_learn_203, q_M_learn_206, q_M_learn_207, q_M_learn_208, q_M_learn_209, q_M_learn_210, q_M_learn_211, q_M_learn_214, Option.bind_some, Option.toList_some, Option.toList_none, List.cons_append, List.nil_append, zq_rf_some, zq_rf_none, ↓reduceIte, zq_lt, zq_le, zq_eq, nI_add, zq_up_s, zq_up_o, zq_up_k, zq_b_eq0, Nat.reduceEqDiff, Nat.reduceLeDiff, Nat.reduceLT, Nat.reduceAdd, not_true_eq_false, not_false_eq_true, Nat.not_lt_zero, zq_on_lt, zq_os, false_or, or_false, or_self, Bool.false_eq_true, p1, p2, p3, p4, p5, p6, p7, p8, p9, p10, p11, p12, p13, p14, p15, p16, p17, p18, zi_1, zi_2, zi_3, zi_4, zi_5, zi_6, zi_7, zi_8, zi_9, zi_10, zi_11, zi_12, zi_14, zi_15, zi_16, zi_17, zi_18, zi_f0, zi_f1, zi_f11, zi_f15, zi_u1, zi_u2, zi_u3, zi_u4, zi_u5, zi_u6, zi_u7, zi_u8, zi_u9, zi_u10, zi_u11, zi_u12, zi_u14, zi_u15, zi_u16, zi_u17, zi_u18, zi_v0, zi_v1, zi_v11, zi_v15, hx, c1, c2, c3, zq_pred, not_true_eq_false, false_and, and_false]
      · simp (disch := first | assumption | omega | exact Nat.le_of_ble_eq_true rfl) only [q_M_learn_115, q_M_learn_116, q_M_learn_117, q_M_learn_118, q_M_learn_121, q_M_learn_121n, q_M_learn_122, q_M_learn_125, q_M_learn_127, q_M_learn_128, q_M_learn_131, q_M_learn_131n, q_M_learn_132, q_M_learn_135, q_M_learn_137, q_M_learn_138, q_M_learn_139, q_M_learn_140, q_M_learn_143, q_M_learn_144, q_M_learn_145, q_M_learn_145n, q_M_learn_146, q_M_learn_149, q_M_learn_151, q_M_learn_152, q_M_learn_155, q_M_learn_155n, q_M_learn_156, q_M_learn_159, q_M_learn_161, q_M_learn_162, q_M_learn_163, q_M_learn_164, q_M_learn_165, q_M_learn_168, q_M_learn_171, q_M_learn_171n, q_M_learn_172, q_M_learn_175, q_M_learn_176, q_M_learn_177, q_M_learn_180, q_M_learn_180n, q_M_learn_181, q_M_learn_184, q_M_learn_185, q_M_learn_186, q_M_learn_187, q_M_learn_188, q_M_learn_191, q_M_learn_191n, q_M_learn_192, q_M_learn_195, q_M_learn_196, q_M_learn_197, q_M_learn_198, q_M_learn_199, q_M_learn_202, q_M_learn_202n, q_M_learn_203, q_M_learn_206, q_M_learn_207, q_M_learn_208, q_M_learn_209, q_M_learn_210, q_M_learn_211, q_M_learn_214, Option.bind_some, Option.toList_some, Option.toList_none, List.cons_append, List.nil_append, zq_rf_some, zq_rf_none, ↓reduceIte, zq_lt, zq_le, zq_eq, nI_add, zq_up_s, zq_up_o, zq_up_k, zq_b_eq0, Nat.reduceEqDiff, Nat.reduceLeDiff, Nat.reduceLT, Nat.reduceAdd, not_true_eq_false, not_false_eq_true, Nat.not_lt_zero, zq_on_lt, zq_os, false_or, or_false, or_self, Bool.false_eq_true, p1, p2, p3, p4, p5, p6, p7, p8, p9, p10, p11, p12, p13, p14, p15, p16, p17, p18, zi_1, zi_2, zi_3, zi_4, zi_5, zi_6, zi_7, zi_8, zi_9, zi_10, zi_11, zi_12, zi_14, zi_15, zi_16, zi_17, zi_18, zi_f0, zi_f1, zi_f11, zi_f15, zi_u1, zi_u2, zi_u3, zi_u4, zi_u5, zi_u6, zi_u7, zi_u8, zi_u9, zi_u10, zi_u11, zi_u12, zi_u14, zi_u15, zi_u16, zi_u17, zi_u18, zi_v0, zi_v1, zi_v11, zi_v15, hx, c1, c2, c3, zq_pred, not_false_eq_true, and_self, zq_and1]
  · simp (disch := first | assumption | omega | exact Nat.le_of_ble_eq_true rfl) only [q_M_learn_115, q_M_learn_116, q_M_learn_117, q_M_learn_118, q_M_learn_121, q_M_learn_121n, q_M_learn_122, q_M_learn_125, q_M_learn_127, q_M_learn_128, q_M_learn_131, q_M_learn_131n, q_M_learn_132, q_M_learn_135, q_M_learn_137, q_M_learn_138, q_M_learn_139, q_M_learn_140, q_M_learn_143, q_M_learn_144, q_M_learn_145, q_M_learn_145n, q_M_learn_146, q_M_learn_149, q_M_learn_151, q_M_learn_152, q_M_learn_155, q_M_learn_155n, q_M_learn_156, q_M_learn_159, q_M_learn_161, q_M_learn_162, q_M_learn_163, q_M_learn_164, q_M_learn_165, q_M_learn_168, q_M_learn_171, q_M_learn_171n, q_M_learn_172, q_M_learn_175, q_M_learn_176, q_M_learn_177, q_M_learn_180, q_M_learn_180n, q_M_learn_181, q_M_learn_184, q_M_learn_185, q_M_learn_186, q_M_learn_187, q_M_learn_188, q_M_learn_191, q_M_learn_191n, q_M_learn_192, q_M_learn_195, q_M_learn_196, q_M_learn_197, q_M_learn_198, q_M_learn_199, q_M_learn_202, q_M_learn_202n, q_M_learn_203, q_M_learn_206, q_M_learn_207, q_M_learn_208, q_M_learn_209, q_M_learn_210, q_M_learn_211, q_M_learn_214, Option.bind_some, Option.toList_some, Option.toList_none, List.cons_append, List.nil_append, zq_rf_some, zq_rf_none, ↓reduceIte, zq_lt, zq_le, zq_eq, nI_add, zq_up_s, zq_up_o, zq_up_k, zq_b_eq0, Nat.reduceEqDiff, Nat.reduceLeDiff, Nat.reduceLT, Nat.reduceAdd, not_true_eq_false, not_false_eq_true, Nat.not_lt_zero, zq_on_lt, zq_os, false_or, or_false, or_self, Bool.false_eq_true, p1, p2, p3, p4, p5, p6, p7, p8, p9, p10, p11, p12, p13, p14, p15, p16, p17, p18, zi_1, zi_2, zi_3, zi_4, zi_5, zi_6, zi_7, zi_8, zi_9, zi_10, zi_11, zi_12, zi_14, zi_15, zi_16, zi_17, zi_18, zi_f0, zi_f1, zi_f11, zi_f15, zi_u1, zi_u2, zi_u3, zi_u4, zi_u5, zi_u6, zi_u7, zi_u8, zi_u9, zi_u10, zi_u11, zi_u12, zi_u14, zi_u15, zi_u16, zi_u17, zi_u18, zi_v0, zi_v1, zi_v11, zi_v15, hx, c1, false_and]
def zr_l2 : Nat → Nat → Nat → (Nat → Nat → Nat) → Nat × (Nat → Nat → Nat)
  | 0, _, mo, S => (mo, S)
  | c + 1, e, mo, S => zr_l2 c (e + 1) (zr_l2s e mo S).1 (zr_l2s e mo S).2
theorem m_M_learn_g2 {d nx kx r : Nat} {sh : zq_S} {P : zq_P} {I0 : zq_I} (hM : zr_lay r sh P) : ∀ (c e mo : Nat) (S : Nat → Nat → Nat) (v3 v4 : Option Value), zr_bd S → zr_lp S → 1 ≤ e → (S 0 0 = 0 → c = 0) → (S 0 0 ≠ 0 → e + c = S 0 0) → (zr_l2 c e mo S).1 ≤ 1 → e < 60000 →
    zq_F d 99 95 [some (.ref r), some (.int (nI mo)), some (.int (nI e)), v3, v4] [] sh (zi r S I0) P nx kx = some (some (.int (nI (zr_l2 c e mo S).1)), sh, zi r (zr_l2 c e mo S).2 I0, P, nx, kx)
  | 0, e, mo, S, v3, v4, hS, hp, he, h1, h2, hm, h6 => by
    have s0 := hM.1
    have hne := hp.1
    have h3 : S 0 0 ≤ e := by
      by_cases h0 : S 0 0 = 0
      · omega
      · have := h2 h0; omega
    have hm : mo ≤ 1 := hm
    rw [q_M_learn_95]
    rcases (show mo = 0 ∨ mo = 1 by omega) with rfl | rfl
    · simp (disch := first | assumption | omega | exact Nat.le_of_ble_eq_true rfl) only [q_M_learn_96, q_M_learn_96n, q_M_learn_97, q_M_learn_100, q_M_learn_103, q_M_learn_103n, q_M_learn_104, q_M_learn_107, q_M_learn_108, q_M_learn_109, q_M_learn_110, q_M_learn_111, q_M_learn_115, q_M_learn_116, q_M_learn_117, q_M_learn_118, q_M_learn_121, q_M_learn_121n, q_M_learn_122, q_M_learn_125, q_M_learn_127, q_M_learn_128, q_M_learn_131, q_M_learn_131n, q_M_learn_132, q_M_learn_135, q_M_learn_137, q_M_learn_138, q_M_learn_139, q_M_learn_140, q_M_learn_143, q_M_learn_144, q_M_learn_145, q_M_learn_145n, q_M_learn_146, q_M_learn_149, q_M_learn_151, q_M_learn_152, q_M_learn_155, q_M_learn_155n, q_M_learn_156, q_M_learn_159, q_M_learn_161, q_M_learn_162, q_M_learn_163, q_M_learn_164, q_M_learn_165, q_M_learn_168, q_M_learn_171, q_M_learn_171n, q_M_learn_172, q_M_learn_175, q_M_learn_176, q_M_learn_177, q_M_learn_180, q_M_learn_180n, q_M_learn_181, q_M_learn_184, q_M_learn_185, q_M_learn_186, q_M_learn_187, q_M_learn_188, q_M_learn_191, q_M_learn_191n, q_M_learn_192, q_M_learn_195, q_M_learn_196, q_M_learn_197, q_M_learn_198, q_M_learn_199, q_M_learn_202, q_M_learn_202n, q_M_learn_203, q_M_learn_206, q_M_learn_207, q_M_learn_208, q_M_learn_209, q_M_learn_210, q_M_learn_211, q_M_learn_214, q_M_learn_217, q_M_learn_218_0, q_M_learn_218_1, q_M_learn_218_b, Option.bind_some, Option.toList_some, Option.toList_none, List.cons_append, List.nil_append, zq_rf_some, zq_rf_none, ↓reduceIte, zq_lt, zq_le, zq_eq, nI_add, zq_up_s, zq_up_o, zq_up_k, zq_b_eq0, Nat.reduceEqDiff, Nat.reduceLeDiff, Nat.reduceLT, Nat.reduceAdd, not_true_eq_false, not_false_eq_true, Nat.not_lt_zero, zq_on_lt, zq_os, false_or, or_false, or_self, Bool.false_eq_true, zi_1, zi_2, zi_3, zi_4, zi_5, zi_6, zi_7, zi_8, zi_9, zi_10, zi_11, zi_12, zi_14, zi_15, zi_16, zi_17, zi_18, zi_f0, zi_f1, zi_f11, zi_f15, zi_u1, zi_u2, zi_u3, zi_u4, zi_u5, zi_u6, zi_u7, zi_u8, zi_u9, zi_u10, zi_u11, zi_u12, zi_u14, zi_u15, zi_u16, zi_u17, zi_u18, zi_v0, zi_v1, zi_v11, zi_v15, zq_ne_gt, h3, zr_l2]
    · simp (disch := first | assumption | omega | exact Nat.le_of_ble_eq_true rfl) only [q_M_learn_96, q_M_learn_96n, q_M_learn_97, q_M_learn_100, q_M_learn_103, q_M_learn_103n, q_M_learn_104, q_M_learn_107, q_M_learn_108, q_M_learn_109, q_M_learn_110, q_M_learn_111, q_M_learn_115, q_M_learn_116, q_M_learn_117, q_M_learn_118, q_M_learn_121, q_M_learn_121n, q_M_learn_122, q_M_learn_125, q_M_learn_127, q_M_learn_128, q_M_learn_131, q_M_learn_131n, q_M_learn_132, q_M_learn_135, q_M_learn_137, q_M_learn_138, q_M_learn_139, q_M_learn_140, q_M_learn_143, q_M_learn_144, q_M_learn_145, q_M_learn_145n, q_M_learn_146, q_M_learn_149, q_M_learn_151, q_M_learn_152, q_M_learn_155, q_M_learn_155n, q_M_learn_156, q_M_learn_159, q_M_learn_161, q_M_learn_162, q_M_learn_163, q_M_learn_164, q_M_learn_165, q_M_learn_168, q_M_learn_171, q_M_learn_171n, q_M_learn_172, q_M_learn_175, q_M_learn_176, q_M_learn_177, q_M_learn_180, q_M_learn_180n, q_M_learn_181, q_M_learn_184, q_M_learn_185, q_M_learn_186, q_M_learn_187, q_M_learn_188, q_M_learn_191, q_M_learn_191n, q_M_learn_192, q_M_learn_195, q_M_learn_196, q_M_learn_197, q_M_learn_198, q_M_learn_199, q_M_learn_202, q_M_learn_202n, q_M_learn_203, q_M_learn_206, q_M_learn_207, q_M_learn_208, q_M_learn_209, q_M_learn_210, q_M_learn_211, q_M_learn_214, q_M_learn_217, q_M_learn_218_0, q_M_learn_218_1, q_M_learn_218_b, Option.bind_some, Option.toList_some, Option.toList_none, List.cons_append, List.nil_append, zq_rf_some, zq_rf_none, ↓reduceIte, zq_lt, zq_le, zq_eq, nI_add, zq_up_s, zq_up_o, zq_up_k, zq_b_eq0, Nat.reduceEqDiff, Nat.reduceLeDiff, Nat.reduceLT, Nat.reduceAdd, not_true_eq_false, not_false_eq_true, Nat.not_lt_zero, zq_on_lt, zq_os, false_or, or_false, or_self, Bool.false_eq_true, zi_1, zi_2, zi_3, zi_4, zi_5, zi_6, zi_7, zi_8, zi_9, zi_10, zi_11, zi_12, zi_14, zi_15, zi_16, zi_17, zi_18, zi_f0, zi_f1, zi_f11, zi_f15, zi_u1, zi_u2, zi_u3, zi_u4, zi_u5, zi_u6, zi_u7, zi_u8, zi_u9, zi_u10, zi_u11, zi_u12, zi_u14, zi_u15, zi_u16, zi_u17, zi_u18, zi_v0, zi_v1, zi_v11, zi_v15, zq_ne_gt, h3, zr_l2]
  | c + 1, e, mo, S, v3, v4, hS, hp, he, h1, h2, hm, h6 => by
    have h0 : S 0 0 ≠ 0 := fun q => absurd (h1 q) (by omega)
    have h3 := h2 h0
    have hne := hp.1
    have o0 : (zr_l2s e mo S).2 0 0 = S 0 0 := zr_l2s_o (by decide) (by decide)
    rw [m_M_learn_e hM hS hp he (by omega)]
    exact m_M_learn_g2 hM c (e + 1) (zr_l2s e mo S).1 (zr_l2s e mo S).2 _ _ (zr_l2s_bd hS) (hp.same (fun a b x y => zr_l2s_o x y)) (by omega) (by rw [o0]; intro q; exact absurd q h0) (by rw [o0]; intro _; omega) hm (by omega)
def zr_learn (S : Nat → Nat → Nat) : Nat × (Nat → Nat → Nat) := zr_l2 (S 0 0 - 1) 1 (zr_l1 (S 0 15) 0 0 S).1 (zr_l1 (S 0 15) 0 0 S).2
theorem zr_l1_o {a j : Nat} (h : a ≠ 15) (h6 : a ≠ 16) : ∀ (c m mo : Nat) (S : Nat → Nat → Nat), (zr_l1 c m mo S).2 a j = S a j
  | 0, m, mo, S => rfl
  | c + 1, m, mo, S => by
    unfold zr_l1
    split
    · exact zr_l1_o h h6 c _ _ _
    · split
      · rw [zr_l1_o h h6 c, zq_up_o h]
      · rw [zr_l1_o h h6 c, zq_up_o h6]
theorem zr_l1_bd : ∀ (c m mo : Nat) (S : Nat → Nat → Nat), zr_bd S → zr_bd (zr_l1 c m mo S).2
  | 0, m, mo, S, h => h
  | c + 1, m, mo, S, h => by
    unfold zr_l1
    split
    · exact zr_l1_bd c _ _ _ h
    · split
      · exact zr_l1_bd c _ _ _ (h.up (by decide))
      · exact zr_l1_bd c _ _ _ (h.up (by decide))
theorem zr_l1_mo : ∀ (c m mo : Nat) (S : Nat → Nat → Nat), mo ≤ 1 → (zr_l1 c m mo S).1 ≤ 1
  | 0, m, mo, S, h => h
  | c + 1, m, mo, S, h => by
    unfold zr_l1
    split
    · exact zr_l1_mo c _ _ _ h
    · split
      · exact zr_l1_mo c _ _ _ (by split <;> omega)
      · exact zr_l1_mo c _ _ _ (by split <;> omega)
theorem zr_k1_mo {mo k : Nat} {S : Nat → Nat → Nat} (h : mo ≤ 1) : (zr_k1 mo S k).1 ≤ 1 := by
  unfold zr_k1
  split
  · exact h
  · dsimp only
    split <;> omega
theorem zr_l2_o {a j : Nat} (h : a ≠ 15) (h6 : a ≠ 16) : ∀ (c m mo : Nat) (S : Nat → Nat → Nat), (zr_l2 c m mo S).2 a j = S a j
  | 0, m, mo, S => rfl
  | c + 1, m, mo, S => by
    unfold zr_l2
    rw [zr_l2_o h h6 c, zr_l2s_o h h6]
theorem zr_l2_bd : ∀ (c m mo : Nat) (S : Nat → Nat → Nat), zr_bd S → zr_bd (zr_l2 c m mo S).2
  | 0, m, mo, S, h => h
  | c + 1, m, mo, S, h => zr_l2_bd c _ _ _ (zr_l2s_bd h)
theorem zr_l2_mo : ∀ (c m mo : Nat) (S : Nat → Nat → Nat), mo ≤ 1 → (zr_l2 c m mo S).1 ≤ 1
  | 0, m, mo, S, h => h
  | c + 1, m, mo, S, h => by
    unfold zr_l2
    apply zr_l2_mo c
    unfold zr_l2s
    split
    · exact Nat.le_refl _
    · exact zr_k1_mo (zr_k1_mo h)
theorem zr_learn_o {S : Nat → Nat → Nat} {a j : Nat} (h : a ≠ 15) (h6 : a ≠ 16) : (zr_learn S).2 a j = S a j := by
  unfold zr_learn
  rw [zr_l2_o h h6, zr_l1_o h h6]
theorem zr_learn_bd {S : Nat → Nat → Nat} (h : zr_bd S) : zr_bd (zr_learn S).2 := zr_l2_bd _ _ _ _ (zr_l1_bd _ _ _ _ h)
theorem zr_learn_mo {S : Nat → Nat → Nat} : (zr_learn S).1 ≤ 1 := zr_l2_mo _ _ _ _ (zr_l1_mo _ _ _ _ (by decide))
theorem m_M_learn {d nx kx r : Nat} {sh : zq_S} {P : zq_P} {S : Nat → Nat → Nat} {I0 : zq_I} (hM : zr_lay r sh P) (hS : zr_bd S) (hp : zr_lp S) : zq_C d 99 [.ref r] sh (zi r S I0) P nx kx = some (some (.int (nI (zr_learn S).1)), sh, zi r (zr_learn S).2 I0, P, nx, kx) := by
  obtain ⟨v3, g1⟩ := m_M_learn_g1 (d := d) (nx := nx) (kx := kx) (I0 := I0) hM (S 0 15) 0 0 S none none hS hp (Nat.zero_add _)
  have o0 : (zr_l1 (S 0 15) 0 0 S).2 0 0 = S 0 0 := zr_l1_o (by decide) (by decide) _ _ _ _
  have g2 := m_M_learn_g2 (d := d) (nx := nx) (kx := kx) (I0 := I0) hM (S 0 0 - 1) 1 (zr_l1 (S 0 15) 0 0 S).1 (zr_l1 (S 0 15) 0 0 S).2 v3 none (zr_l1_bd _ _ _ _ hS) (hp.same (fun a b x y => zr_l1_o x y _ _ _ _)) (Nat.le_refl _) (by rw [o0]; omega) (by rw [o0]; omega) zr_learn_mo (by decide)
  simp (disch := first | assumption | omega | exact Nat.le_of_ble_eq_true rfl) only [q_M_learn, q_M_learn_0, q_M_learn_1, q_M_learn_2, q_M_learn_3, g1, g2, zr_learn]
def zr_gr : Nat → (Nat → Nat → Nat) → (Nat → Nat → Nat)
  | 0, S => S
  | c + 1, S => if (zr_learn S).1 = 0 then (zr_learn S).2 else zr_gr c (zr_learn S).2
theorem zr_gr_o {a j : Nat} (h : a ≠ 15) (h6 : a ≠ 16) : ∀ (c : Nat) (S : Nat → Nat → Nat), zr_gr c S a j = S a j
  | 0, S => rfl
  | c + 1, S => by
    unfold zr_gr
    split
    · exact zr_learn_o h h6
    · rw [zr_gr_o h h6 c, zr_learn_o h h6]
theorem zr_gr_bd : ∀ (c : Nat) (S : Nat → Nat → Nat), zr_bd S → zr_bd (zr_gr c S)
  | 0, S, h => h
  | c + 1, S, h => by
    unfold zr_gr
    split
    · exact zr_learn_bd h
    · exact zr_gr_bd c _ (zr_learn_bd h)
theorem m_M_grow_go {d nx kx r : Nat} {sh : zq_S} {P : zq_P} {I0 : zq_I} (hM : zr_lay r sh P) : ∀ (c t : Nat) (S : Nat → Nat → Nat), zr_bd S → zr_lp S → t + c = 150 → zq_F (d + 1) 100 2 [some (.ref r), some (.int (nI t))] [] sh (zi r S I0) P nx kx = some (none, sh, zi r (zr_gr c S) I0, P, nx, kx)
  | 0, t, S, hS, hp, h => by
    have h1 : 150 ≤ t := by omega
    rw [q_M_grow_2]
    simp (disch := first | assumption | omega | exact Nat.le_of_ble_eq_true rfl) only [q_M_grow_0, q_M_grow_1, q_M_grow_3, q_M_grow_6, q_M_grow_9, q_M_grow_9n, q_M_grow_10, q_M_grow_13, q_M_grow_16, q_M_grow_17, q_M_grow_20, q_M_grow_23, Option.bind_some, Option.toList_some, Option.toList_none, List.cons_append, List.nil_append, zq_rf_some, zq_rf_none, ↓reduceIte, zq_lt, zq_le, zq_eq, nI_add, zq_up_s, zq_up_o, zq_up_k, zq_b_eq0, Nat.reduceEqDiff, Nat.reduceLeDiff, Nat.reduceLT, Nat.reduceAdd, not_true_eq_false, not_false_eq_true, Nat.not_lt_zero, zq_on_lt, zq_os, false_or, or_false, or_self, Bool.false_eq_true, h1, zr_gr]
  | c + 1, t, S, hS, hp, h => by
    have s0 := hM.1
    have h1 : ¬ 150 ≤ t := by omega
    have le := m_M_learn (d := d) (nx := nx) (kx := kx) (I0 := I0) hM hS hp
    have b1 := zr_learn_mo (S := S)
    have ih := m_M_grow_go (d := d) (nx := nx) (kx := kx) (I0 := I0) hM c (t + 1) (zr_learn S).2 (zr_learn_bd hS) (hp.same (fun a b x y => zr_learn_o x y)) (by omega)
    by_cases c1 : (zr_learn S).1 = 0
    · rw [q_M_grow_2]
      simp (disch := first | assumption | omega | exact Nat.le_of_ble_eq_true rfl) only [q_M_grow_0, q_M_grow_1, q_M_grow_3, q_M_grow_6, q_M_grow_9, q_M_grow_9n, q_M_grow_10, q_M_grow_13, q_M_grow_16, q_M_grow_17, q_M_grow_20, q_M_grow_23, Option.bind_some, Option.toList_some, Option.toList_none, List.cons_append, List.nil_append, zq_rf_some, zq_rf_none, ↓reduceIte, zq_lt, zq_le, zq_eq, nI_add, zq_up_s, zq_up_o, zq_up_k, zq_b_eq0, Nat.reduceEqDiff, Nat.reduceLeDiff, Nat.reduceLT, Nat.reduceAdd, not_true_eq_false, not_false_eq_true, Nat.not_lt_zero, zq_on_lt, zq_os, false_or, or_false, or_self, Bool.false_eq_true, h1, le, c1, zr_gr]
    · rw [q_M_grow_2]
      simp (disch := first | assumption | omega | exact Nat.le_of_ble_eq_true rfl) only [q_M_grow_0, q_M_grow_1, q_M_grow_3, q_M_grow_6, q_M_grow_9, q_M_grow_9n, q_M_grow_10, q_M_grow_13, q_M_grow_16, q_M_grow_17, q_M_grow_20, q_M_grow_23, Option.bind_some, Option.toList_some, Option.toList_none, List.cons_append, List.nil_append, zq_rf_some, zq_rf_none, ↓reduceIte, zq_lt, zq_le, zq_eq, nI_add, zq_up_s, zq_up_o, zq_up_k, zq_b_eq0, Nat.reduceEqDiff, Nat.reduceLeDiff, Nat.reduceLT, Nat.reduceAdd, not_true_eq_false, not_false_eq_true, Nat.not_lt_zero, zq_on_lt, zq_os, false_or, or_false, or_self, Bool.false_eq_true, h1, le, c1, zr_gr, ih]
theorem m_M_grow {d nx kx r : Nat} {sh : zq_S} {P : zq_P} {S : Nat → Nat → Nat} {I0 : zq_I} (hM : zr_lay r sh P) (hS : zr_bd S) (hp : zr_lp S) : zq_C (d + 1) 100 [.ref r] sh (zi r S I0) P nx kx = some (none, sh, zi r (zr_gr 150 S) I0, P, nx, kx) := by
  have g := m_M_grow_go (d := d) (nx := nx) (kx := kx) (I0 := I0) hM 150 0 S hS hp rfl
  simp (disch := first | assumption | omega | exact Nat.le_of_ble_eq_true rfl) only [q_M_grow, q_M_grow_0, q_M_grow_1, g]
