/-! the reference: the tree in its middle row -/
theorem zq_div2 {n : Nat} (h : n < 2147483648) : nI n / nI 2 = nI (n / 2) := pk_div h (by decide) (by decide)
theorem zq_20 : ¬ nI 2 = 0 := by decide
theorem zr_bd.or {S : Nat → Nat → Nat} (h : zr_bd S) {k j l : Nat} (hl : l < 16) : S k j ||| 2 ^ l < 65536 :=
  Nat.or_lt_two_pow (n := 16) (h k j) (Nat.pow_lt_pow_right (by decide) hl)
def zr_bA : Nat → Nat → (Nat → Nat → Nat) → (Nat → Nat → Nat)
  | 0, _, S => S
  | c + 1, n, S => if n = 0 then S else zr_bA c (n / 2) (zq_up (zq_up S 1 (336 + n) 0) 2 (336 + n) 0)
theorem zr_bA_bd : ∀ (c n : Nat) (S : Nat → Nat → Nat), zr_bd S → zr_bd (zr_bA c n S)
  | 0, n, S, h => h
  | c + 1, n, S, h => by
    unfold zr_bA
    split
    · exact h
    · exact zr_bA_bd c _ _ ((h.up (by decide)).up (by decide))
theorem zr_bA_o {k j : Nat} (h1 : k ≠ 1) (h2 : k ≠ 2) : ∀ (c n : Nat) (S : Nat → Nat → Nat), zr_bA c n S k j = S k j
  | 0, n, S => rfl
  | c + 1, n, S => by
    unfold zr_bA
    split
    · rfl
    · rw [zr_bA_o h1 h2 c, zq_up_o h2, zq_up_o h1]
theorem m_M_blankAbove_go {d nx kx r : Nat} {sh : zq_S} {P : zq_P} {I0 : zq_I} (hM : zr_lay r sh P) {l1 : Option Value} : ∀ (c n : Nat) (S : Nat → Nat → Nat), n < 2 ^ c → n < 16 → zq_F d 87 4 [some (.ref r), l1, some (.int (nI n))] [] sh (zi r S I0) P nx kx = some (none, sh, zi r (zr_bA c n S) I0, P, nx, kx)
  | 0, n, S, h, h2 => by
    have h3 : n = 0 := by omega
    subst h3
    simp (disch := first | assumption | omega | exact Nat.le_of_ble_eq_true rfl) only [q_M_blankAbove_4, q_M_blankAbove_0, q_M_blankAbove_1, q_M_blankAbove_2, q_M_blankAbove_3, q_M_blankAbove_5, q_M_blankAbove_8, q_M_blankAbove_8n, q_M_blankAbove_9, q_M_blankAbove_12, q_M_blankAbove_15, q_M_blankAbove_16, q_M_blankAbove_17, q_M_blankAbove_18, q_M_blankAbove_19, q_M_blankAbove_19n, q_M_blankAbove_20, q_M_blankAbove_23, q_M_blankAbove_26, q_M_blankAbove_27, q_M_blankAbove_28, q_M_blankAbove_29, q_M_blankAbove_30, q_M_blankAbove_31, q_M_blankAbove_32, q_M_blankAbove_33, q_M_blankAbove_34, q_M_blankAbove_37, Option.bind_some, Option.toList_some, Option.toList_none, List.cons_append, List.nil_append, zq_rf_some, zq_rf_none, ↓reduceIte, zq_lt, zq_le, zq_eq, nI_add, zq_up_s, zq_up_o, zq_up_k, zq_b_eq0, Nat.reduceEqDiff, Nat.reduceLeDiff, Nat.reduceLT, Nat.reduceAdd, not_true_eq_false, not_false_eq_true, Nat.not_lt_zero, zq_on_lt, zq_os, false_or, or_false, or_self, zr_bA, Nat.le_refl]
  | c + 1, n, S, h, h2 => by
    by_cases h3 : n = 0
    · subst h3
      simp (disch := first | assumption | omega | exact Nat.le_of_ble_eq_true rfl) only [q_M_blankAbove_4, q_M_blankAbove_0, q_M_blankAbove_1, q_M_blankAbove_2, q_M_blankAbove_3, q_M_blankAbove_5, q_M_blankAbove_8, q_M_blankAbove_8n, q_M_blankAbove_9, q_M_blankAbove_12, q_M_blankAbove_15, q_M_blankAbove_16, q_M_blankAbove_17, q_M_blankAbove_18, q_M_blankAbove_19, q_M_blankAbove_19n, q_M_blankAbove_20, q_M_blankAbove_23, q_M_blankAbove_26, q_M_blankAbove_27, q_M_blankAbove_28, q_M_blankAbove_29, q_M_blankAbove_30, q_M_blankAbove_31, q_M_blankAbove_32, q_M_blankAbove_33, q_M_blankAbove_34, q_M_blankAbove_37, Option.bind_some, Option.toList_some, Option.toList_none, List.cons_append, List.nil_append, zq_rf_some, zq_rf_none, ↓reduceIte, zq_lt, zq_le, zq_eq, nI_add, zq_up_s, zq_up_o, zq_up_k, zq_b_eq0, Nat.reduceEqDiff, Nat.reduceLeDiff, Nat.reduceLT, Nat.reduceAdd, not_true_eq_false, not_false_eq_true, Nat.not_lt_zero, zq_on_lt, zq_os, false_or, or_false, or_self, zr_bA, Nat.le_refl]
    · have ih := m_M_blankAbove_go (d := d) (nx := nx) (kx := kx) (I0 := I0) (l1 := l1) hM c (n / 2) (zq_up (zq_up S 1 (336 + n) 0) 2 (336 + n) 0) (by rw [Nat.pow_succ] at h; omega) (by omega)
      obtain ⟨s0, t1, n1, t2, n2, t3, n3, t4, n4, t5, n5, t6, n6, t7, n7, t8, n8, t9, n9, t10, n10, t11, n11, t12, n12, t13, n13, t14, n14, t15, n15, t16, n16, t17, n17, t18, n18, p1, p2, p3, p4, p5, p6, p7, p8, p9, p10, p11, p12, p13, p14, p15, p16, p17, p18⟩ := id hM
      have h4 : ¬ n ≤ 0 := by omega
      have h20 := zq_20
      simp (disch := first | assumption | omega | exact Nat.le_of_ble_eq_true rfl) only [q_M_blankAbove_4, q_M_blankAbove_0, q_M_blankAbove_1, q_M_blankAbove_2, q_M_blankAbove_3, q_M_blankAbove_5, q_M_blankAbove_8, q_M_blankAbove_8n, q_M_blankAbove_9, q_M_blankAbove_12, q_M_blankAbove_15, q_M_blankAbove_16, q_M_blankAbove_17, q_M_blankAbove_18, q_M_blankAbove_19, q_M_blankAbove_19n, q_M_blankAbove_20, q_M_blankAbove_23, q_M_blankAbove_26, q_M_blankAbove_27, q_M_blankAbove_28, q_M_blankAbove_29, q_M_blankAbove_30, q_M_blankAbove_31, q_M_blankAbove_32, q_M_blankAbove_33, q_M_blankAbove_34, q_M_blankAbove_37, Option.bind_some, Option.toList_some, Option.toList_none, List.cons_append, List.nil_append, zq_rf_some, zq_rf_none, ↓reduceIte, zq_lt, zq_le, zq_eq, nI_add, zq_up_s, zq_up_o, zq_up_k, zq_b_eq0, Nat.reduceEqDiff, Nat.reduceLeDiff, Nat.reduceLT, Nat.reduceAdd, not_true_eq_false, not_false_eq_true, Nat.not_lt_zero, zq_on_lt, zq_os, false_or, or_false, or_self, p1, p2, p3, p4, p5, p6, p7, p8, p9, p10, p11, p12, p13, p14, p15, p16, p17, p18, zi_1, zi_2, zi_3, zi_4, zi_5, zi_6, zi_7, zi_8, zi_9, zi_10, zi_11, zi_12, zi_14, zi_15, zi_16, zi_17, zi_18, zi_f0, zi_f1, zi_f11, zi_f15, zi_u1, zi_u2, zi_u3, zi_u4, zi_u5, zi_u6, zi_u7, zi_u8, zi_u9, zi_u10, zi_u11, zi_u12, zi_u14, zi_u15, zi_u16, zi_u17, zi_u18, zi_v0, zi_v1, zi_v11, zi_v15, zr_bA, h3, h4, zq_div2, ih]
theorem m_M_blankAbove {d nx kx r : Nat} {sh : zq_S} {P : zq_P} {S : Nat → Nat → Nat} {I0 : zq_I} (hM : zr_lay r sh P) {n : Nat} (hn : n < 16) : zq_C d 87 [.ref r, .int (nI n)] sh (zi r S I0) P nx kx = some (none, sh, zi r (zr_bA 3 (n / 2) S) I0, P, nx, kx) := by
  have h := m_M_blankAbove_go (d := d) (nx := nx) (kx := kx) (I0 := I0) (l1 := some (.int (nI n))) hM 3 (n / 2) S (by omega) (by omega)
  have h20 := zq_20
  simp (disch := first | assumption | omega | exact Nat.le_of_ble_eq_true rfl) only [q_M_blankAbove, q_M_blankAbove_0, q_M_blankAbove_1, q_M_blankAbove_2, q_M_blankAbove_3, q_M_blankAbove_5, q_M_blankAbove_8, q_M_blankAbove_8n, q_M_blankAbove_9, q_M_blankAbove_12, q_M_blankAbove_15, q_M_blankAbove_16, q_M_blankAbove_17, q_M_blankAbove_18, q_M_blankAbove_19, q_M_blankAbove_19n, q_M_blankAbove_20, q_M_blankAbove_23, q_M_blankAbove_26, q_M_blankAbove_27, q_M_blankAbove_28, q_M_blankAbove_29, q_M_blankAbove_30, q_M_blankAbove_31, q_M_blankAbove_32, q_M_blankAbove_33, q_M_blankAbove_34, q_M_blankAbove_37, Option.bind_some, Option.toList_some, Option.toList_none, List.cons_append, List.nil_append, zq_rf_some, zq_rf_none, ↓reduceIte, zq_lt, zq_le, zq_eq, nI_add, zq_up_s, zq_up_o, zq_up_k, zq_b_eq0, Nat.reduceEqDiff, Nat.reduceLeDiff, Nat.reduceLT, Nat.reduceAdd, not_true_eq_false, not_false_eq_true, Nat.not_lt_zero, zq_on_lt, zq_os, false_or, or_false, or_self, zq_div2, h]
def zr_lb (S : Nat → Nat → Nat) : Nat → Nat → Nat
  | 0, l => l
  | c + 1, l => if S 1 (344 + l) = 0 then l else zr_lb S c (l + 1)
theorem zr_lb_le (S : Nat → Nat → Nat) : ∀ c l, zr_lb S c l ≤ l + c
  | 0, l => Nat.le_refl _
  | c + 1, l => by
    have := zr_lb_le S c (l + 1)
    unfold zr_lb
    split <;> omega
def zr_mk (l : Nat) : Nat → Nat → (Nat → Nat → Nat) → (Nat → Nat → Nat)
  | 0, _, S => S
  | c + 1, n, S => if n = 0 then S else zr_mk l c (n / 2) (if S 1 (336 + n) = 0 then S else zq_up S 2 (336 + n) (S 2 (336 + n) ||| 2 ^ l))
theorem zr_mk_bd {l : Nat} (hl : l < 8) : ∀ (c n : Nat) (S : Nat → Nat → Nat), zr_bd S → zr_bd (zr_mk l c n S)
  | 0, n, S, h => h
  | c + 1, n, S, h => by
    unfold zr_mk
    split
    · exact h
    · apply zr_mk_bd hl c
      split
      · exact h
      · exact h.up (h.or (by omega))
theorem zr_mk_o {l k j : Nat} (h2 : k ≠ 2) : ∀ (c n : Nat) (S : Nat → Nat → Nat), zr_mk l c n S k j = S k j
  | 0, n, S => rfl
  | c + 1, n, S => by
    unfold zr_mk
    split
    · rfl
    · rw [zr_mk_o h2 c]
      split
      · rfl
      · rw [zq_up_o h2]
def zr_pa (S : Nat → Nat → Nat) (p e : Nat) : Nat → Nat → Nat := zq_up (zq_up (zq_up (zr_mk (zr_lb S 7 0) 3 ((8 + zr_lb S 7 0) / 2) (zq_up S 1 (344 + zr_lb S 7 0) (S 7 p))) 6 p 2) 8 p e) 9 p (zr_lb S 7 0)
theorem zr_pa_bd {S : Nat → Nat → Nat} (h : zr_bd S) {p e : Nat} (he : e < 65536) : zr_bd (zr_pa S p e) := by
  have hl := zr_lb_le S 7 0
  exact (((zr_mk_bd (by omega) _ _ _ (h.up (h 7 p))).up (by decide)).up he).up (by omega)
theorem zr_pa_o {S : Nat → Nat → Nat} {p e k j : Nat} (h1 : k ≠ 1) (h2 : k ≠ 2) (h6 : k ≠ 6) (h8 : k ≠ 8) (h9 : k ≠ 9) : zr_pa S p e k j = S k j := by
  unfold zr_pa
  rw [zq_up_o h9, zq_up_o h8, zq_up_o h6, zr_mk_o h2, zq_up_o h1]
theorem m_M_putAdded_g1 {d nx kx r : Nat} {sh : zq_S} {P : zq_P} {S : Nat → Nat → Nat} {I0 : zq_I} (hM : zr_lay r sh P) (hS : zr_bd S) {v1 v2 l4 : Option Value} : ∀ (c l : Nat), l + c = 7 → zq_F d 88 2 [some (.ref r), v1, v2, some (.int (nI l)), l4] [] sh (zi r S I0) P nx kx = zq_F d 88 27 [some (.ref r), v1, v2, some (.int (nI (zr_lb S c l))), l4] [] sh (zi r S I0) P nx kx
  | 0, l, h => by
    have h1 : 7 ≤ l := by omega
    have s0 := hM.1
    simp (disch := first | assumption | omega | exact Nat.le_of_ble_eq_true rfl) only [q_M_putAdded_2, q_M_putAdded_3, q_M_putAdded_5, q_M_putAdded_8, q_M_putAdded_8n, q_M_putAdded_9, q_M_putAdded_12, q_M_putAdded_15, q_M_putAdded_16, q_M_putAdded_17, q_M_putAdded_18, q_M_putAdded_21, q_M_putAdded_24, Option.bind_some, Option.toList_some, Option.toList_none, List.cons_append, List.nil_append, zq_rf_some, zq_rf_none, ↓reduceIte, zq_lt, zq_le, zq_eq, nI_add, zq_up_s, zq_up_o, zq_up_k, zq_b_eq0, Nat.reduceEqDiff, Nat.reduceLeDiff, Nat.reduceLT, Nat.reduceAdd, not_true_eq_false, not_false_eq_true, Nat.not_lt_zero, zq_on_lt, zq_os, false_or, or_false, or_self, zr_lb, h1]
  | c + 1, l, h => by
    have ih := m_M_putAdded_g1 (d := d) (nx := nx) (kx := kx) (I0 := I0) (v1 := v1) (v2 := v2) (l4 := l4) hM hS c (l + 1) (by omega)
    obtain ⟨s0, t1, n1, t2, n2, t3, n3, t4, n4, t5, n5, t6, n6, t7, n7, t8, n8, t9, n9, t10, n10, t11, n11, t12, n12, t13, n13, t14, n14, t15, n15, t16, n16, t17, n17, t18, n18, p1, p2, p3, p4, p5, p6, p7, p8, p9, p10, p11, p12, p13, p14, p15, p16, p17, p18⟩ := id hM
    have h1 : ¬ 7 ≤ l := by omega
    have b1 := hS.lt 1 (344 + l)
    by_cases c1 : S 1 (344 + l) = 0
    · simp (disch := first | assumption | omega | exact Nat.le_of_ble_eq_true rfl) only [q_M_putAdded_2, q_M_putAdded_3, q_M_putAdded_5, q_M_putAdded_8, q_M_putAdded_8n, q_M_putAdded_9, q_M_putAdded_12, q_M_putAdded_15, q_M_putAdded_16, q_M_putAdded_17, q_M_putAdded_18, q_M_putAdded_21, q_M_putAdded_24, Option.bind_some, Option.toList_some, Option.toList_none, List.cons_append, List.nil_append, zq_rf_some, zq_rf_none, ↓reduceIte, zq_lt, zq_le, zq_eq, nI_add, zq_up_s, zq_up_o, zq_up_k, zq_b_eq0, Nat.reduceEqDiff, Nat.reduceLeDiff, Nat.reduceLT, Nat.reduceAdd, not_true_eq_false, not_false_eq_true, Nat.not_lt_zero, zq_on_lt, zq_os, false_or, or_false, or_self, p1, p2, p3, p4, p5, p6, p7, p8, p9, p10, p11, p12, p13, p14, p15, p16, p17, p18, zi_1, zi_2, zi_3, zi_4, zi_5, zi_6, zi_7, zi_8, zi_9, zi_10, zi_11, zi_12, zi_14, zi_15, zi_16, zi_17, zi_18, zi_f0, zi_f1, zi_f11, zi_f15, zi_u1, zi_u2, zi_u3, zi_u4, zi_u5, zi_u6, zi_u7, zi_u8, zi_u9, zi_u10, zi_u11, zi_u12, zi_u14, zi_u15, zi_u16, zi_u17, zi_u18, zi_v0, zi_v1, zi_v11, zi_v15, zr_lb, h1, c1]
    · simp (disch := first | assumption | omega | exact Nat.le_of_ble_eq_true rfl) only [q_M_putAdded_2, q_M_putAdded_3, q_M_putAdded_5, q_M_putAdded_8, q_M_putAdded_8n, q_M_putAdded_9, q_M_putAdded_12, q_M_putAdded_15, q_M_putAdded_16, q_M_putAdded_17, q_M_putAdded_18, q_M_putAdded_21, q_M_putAdded_24, Option.bind_some, Option.toList_some, Option.toList_none, List.cons_append, List.nil_append, zq_rf_some, zq_rf_none, ↓reduceIte, zq_lt, zq_le, zq_eq, nI_add, zq_up_s, zq_up_o, zq_up_k, zq_b_eq0, Nat.reduceEqDiff, Nat.reduceLeDiff, Nat.reduceLT, Nat.reduceAdd, not_true_eq_false, not_false_eq_true, Nat.not_lt_zero, zq_on_lt, zq_os, false_or, or_false, or_self, p1, p2, p3, p4, p5, p6, p7, p8, p9, p10, p11, p12, p13, p14, p15, p16, p17, p18, zi_1, zi_2, zi_3, zi_4, zi_5, zi_6, zi_7, zi_8, zi_9, zi_10, zi_11, zi_12, zi_14, zi_15, zi_16, zi_17, zi_18, zi_f0, zi_f1, zi_f11, zi_f15, zi_u1, zi_u2, zi_u3, zi_u4, zi_u5, zi_u6, zi_u7, zi_u8, zi_u9, zi_u10, zi_u11, zi_u12, zi_u14, zi_u15, zi_u16, zi_u17, zi_u18, zi_v0, zi_v1, zi_v11, zi_v15, zr_lb, h1, c1, ih]
theorem m_M_putAdded_g2 {d nx kx r : Nat} {sh : zq_S} {P : zq_P} {I0 : zq_I} (hM : zr_lay r sh P) {v1 v2 : Option Value} {l : Nat} (hl : l < 8) : ∀ (c n : Nat) (S : Nat → Nat → Nat), zr_bd S → n < 2 ^ c → n < 16 → zq_F d 88 51 [some (.ref r), v1, v2, some (.int (nI l)), some (.int (nI n))] [] sh (zi r S I0) P nx kx = zq_F d 88 96 [some (.ref r), v1, v2, some (.int (nI l)), some (.int (nI 0))] [] sh (zi r (zr_mk l c n S) I0) P nx kx
  | 0, n, S, hS, h, h2 => by
    have h3 : n = 0 := by omega
    subst h3
    simp (disch := first | assumption | omega | exact Nat.le_of_ble_eq_true rfl) only [q_M_putAdded_51, q_M_putAdded_53, q_M_putAdded_56, q_M_putAdded_56n, q_M_putAdded_57, q_M_putAdded_60, q_M_putAdded_63, q_M_putAdded_65, q_M_putAdded_66, q_M_putAdded_67, q_M_putAdded_70, q_M_putAdded_70n, q_M_putAdded_71, q_M_putAdded_74, q_M_putAdded_77, q_M_putAdded_79, q_M_putAdded_80, q_M_putAdded_81, q_M_putAdded_82, q_M_putAdded_83, q_M_putAdded_84, q_M_putAdded_85, q_M_putAdded_86, q_M_putAdded_87, q_M_putAdded_89, q_M_putAdded_90, q_M_putAdded_91, q_M_putAdded_93, Option.bind_some, Option.toList_some, Option.toList_none, List.cons_append, List.nil_append, zq_rf_some, zq_rf_none, ↓reduceIte, zq_lt, zq_le, zq_eq, nI_add, zq_up_s, zq_up_o, zq_up_k, zq_b_eq0, Nat.reduceEqDiff, Nat.reduceLeDiff, Nat.reduceLT, Nat.reduceAdd, not_true_eq_false, not_false_eq_true, Nat.not_lt_zero, zq_on_lt, zq_os, false_or, or_false, or_self, zr_mk, Nat.le_refl]
  | c + 1, n, S, hS, h, h2 => by
    by_cases h3 : n = 0
    · subst h3
      simp (disch := first | assumption | omega | exact Nat.le_of_ble_eq_true rfl) only [q_M_putAdded_51, q_M_putAdded_53, q_M_putAdded_56, q_M_putAdded_56n, q_M_putAdded_57, q_M_putAdded_60, q_M_putAdded_63, q_M_putAdded_65, q_M_putAdded_66, q_M_putAdded_67, q_M_putAdded_70, q_M_putAdded_70n, q_M_putAdded_71, q_M_putAdded_74, q_M_putAdded_77, q_M_putAdded_79, q_M_putAdded_80, q_M_putAdded_81, q_M_putAdded_82, q_M_putAdded_83, q_M_putAdded_84, q_M_putAdded_85, q_M_putAdded_86, q_M_putAdded_87, q_M_putAdded_89, q_M_putAdded_90, q_M_putAdded_91, q_M_putAdded_93, Option.bind_some, Option.toList_some, Option.toList_none, List.cons_append, List.nil_append, zq_rf_some, zq_rf_none, ↓reduceIte, zq_lt, zq_le, zq_eq, nI_add, zq_up_s, zq_up_o, zq_up_k, zq_b_eq0, Nat.reduceEqDiff, Nat.reduceLeDiff, Nat.reduceLT, Nat.reduceAdd, not_true_eq_false, not_false_eq_true, Nat.not_lt_zero, zq_on_lt, zq_os, false_or, or_false, or_self, zr_mk, Nat.le_refl]
    · have b1 := hS.lt 1 (336 + n)
      have hp : n / 2 < 2 ^ c := by rw [Nat.pow_succ] at h; omega
      have h4 : ¬ n ≤ 0 := by omega
      have h20 := zq_20
      by_cases c1 : S 1 (336 + n) = 0
      · have ih := m_M_putAdded_g2 (d := d) (nx := nx) (kx := kx) (I0 := I0) (v1 := v1) (v2 := v2) hM hl c (n / 2) S hS hp (by omega)
        obtain ⟨s0, t1, n1, t2, n2, t3, n3, t4, n4, t5, n5, t6, n6, t7, n7, t8, n8, t9, n9, t10, n10, t11, n11, t12, n12, t13, n13, t14, n14, t15, n15, t16, n16, t17, n17, t18, n18, p1, p2, p3, p4, p5, p6, p7, p8, p9, p10, p11, p12, p13, p14, p15, p16, p17, p18⟩ := id hM
        simp (disch := first | assumption | omega | exact Nat.le_of_ble_eq_true rfl) only [q_M_putAdded_51, q_M_putAdded_53, q_M_putAdded_56, q_M_putAdded_56n, q_M_putAdded_57, q_M_putAdded_60, q_M_putAdded_63, q_M_putAdded_65, q_M_putAdded_66, q_M_putAdded_67, q_M_putAdded_70, q_M_putAdded_70n, q_M_putAdded_71, q_M_putAdded_74, q_M_putAdded_77, q_M_putAdded_79, q_M_putAdded_80, q_M_putAdded_81, q_M_putAdded_82, q_M_putAdded_83, q_M_putAdded_84, q_M_putAdded_85, q_M_putAdded_86, q_M_putAdded_87, q_M_putAdded_89, q_M_putAdded_90, q_M_putAdded_91, q_M_putAdded_93, Option.bind_some, Option.toList_some, Option.toList_none, List.cons_append, List.nil_append, zq_rf_some, zq_rf_none, ↓reduceIte, zq_lt, zq_le, zq_eq, nI_add, zq_up_s, zq_up_o, zq_up_k, zq_b_eq0, Nat.reduceEqDiff, Nat.reduceLeDiff, Nat.reduceLT, Nat.reduceAdd, not_true_eq_false, not_false_eq_true, Nat.not_lt_zero, zq_on_lt, zq_os, false_or, or_false, or_self, p1, p2, p3, p4, p5, p6, p7, p8, p9, p10, p11, p12, p13, p14, p15, p16, p17, p18, zi_1, zi_2, zi_3, zi_4, zi_5, zi_6, zi_7, zi_8, zi_9, zi_10, zi_11, zi_12, zi_14, zi_15, zi_16, zi_17, zi_18, zi_f0, zi_f1, zi_f11, zi_f15, zi_u1, zi_u2, zi_u3, zi_u4, zi_u5, zi_u6, zi_u7, zi_u8, zi_u9, zi_u10, zi_u11, zi_u12, zi_u14, zi_u15, zi_u16, zi_u17, zi_u18, zi_v0, zi_v1, zi_v11, zi_v15, zr_mk, h3, h4, c1, zq_div2, ih]
      · have ih := m_M_putAdded_g2 (d := d) (nx := nx) (kx := kx) (I0 := I0) (v1 := v1) (v2 := v2) hM hl c (n / 2) (zq_up S 2 (336 + n) (S 2 (336 + n) ||| 2 ^ l)) (hS.up (hS.or (by omega))) hp (by omega)
        obtain ⟨s0, t1, n1, t2, n2, t3, n3, t4, n4, t5, n5, t6, n6, t7, n7, t8, n8, t9, n9, t10, n10, t11, n11, t12, n12, t13, n13, t14, n14, t15, n15, t16, n16, t17, n17, t18, n18, p1, p2, p3, p4, p5, p6, p7, p8, p9, p10, p11, p12, p13, p14, p15, p16, p17, p18⟩ := id hM
        simp (disch := first | assumption | omega | exact Nat.le_of_ble_eq_true rfl) only [q_M_putAdded_51, q_M_putAdded_53, q_M_putAdded_56, q_M_putAdded_56n, q_M_putAdded_57, q_M_putAdded_60, q_M_putAdded_63, q_M_putAdded_65, q_M_putAdded_66, q_M_putAdded_67, q_M_putAdded_70, q_M_putAdded_70n, q_M_putAdded_71, q_M_putAdded_74, q_M_putAdded_77, q_M_putAdded_79, q_M_putAdded_80, q_M_putAdded_81, q_M_putAdded_82, q_M_putAdded_83, q_M_putAdded_84, q_M_putAdded_85, q_M_putAdded_86, q_M_putAdded_87, q_M_putAdded_89, q_M_putAdded_90, q_M_putAdded_91, q_M_putAdded_93, Option.bind_some, Option.toList_some, Option.toList_none, List.cons_append, List.nil_append, zq_rf_some, zq_rf_none, ↓reduceIte, zq_lt, zq_le, zq_eq, nI_add, zq_up_s, zq_up_o, zq_up_k, zq_b_eq0, Nat.reduceEqDiff, Nat.reduceLeDiff, Nat.reduceLT, Nat.reduceAdd, not_true_eq_false, not_false_eq_true, Nat.not_lt_zero, zq_on_lt, zq_os, false_or, or_false, or_self, p1, p2, p3, p4, p5, p6, p7, p8, p9, p10, p11, p12, p13, p14, p15, p16, p17, p18, zi_1, zi_2, zi_3, zi_4, zi_5, zi_6, zi_7, zi_8, zi_9, zi_10, zi_11, zi_12, zi_14, zi_15, zi_16, zi_17, zi_18, zi_f0, zi_f1, zi_f11, zi_f15, zi_u1, zi_u2, zi_u3, zi_u4, zi_u5, zi_u6, zi_u7, zi_u8, zi_u9, zi_u10, zi_u11, zi_u12, zi_u14, zi_u15, zi_u16, zi_u17, zi_u18, zi_v0, zi_v1, zi_v11, zi_v15, zr_mk, h3, h4, c1, zq_div2, ih, zq_shl1, zq_or]
theorem m_M_putAdded {d nx kx r : Nat} {sh : zq_S} {P : zq_P} {S : Nat → Nat → Nat} {I0 : zq_I} (hM : zr_lay r sh P) (hS : zr_bd S) {p e : Nat} (hp : p < 10) : zq_C d 88 [.ref r, .int (nI p), .int (nI e)] sh (zi r S I0) P nx kx = some (none, sh, zi r (zr_pa S p e) I0, P, nx, kx) := by
  have hl := zr_lb_le S 7 0
  have g1 := m_M_putAdded_g1 (d := d) (nx := nx) (kx := kx) (I0 := I0) (v1 := some (.int (nI p))) (v2 := some (.int (nI e))) (l4 := none) hM hS 7 0 rfl
  have g2 := m_M_putAdded_g2 (d := d) (nx := nx) (kx := kx) (I0 := I0) (v1 := some (.int (nI p))) (v2 := some (.int (nI e))) hM (l := zr_lb S 7 0) (by omega) 3 ((8 + zr_lb S 7 0) / 2) (zq_up S 1 (344 + zr_lb S 7 0) (S 7 p)) (hS.up (hS 7 p)) (by omega) (by omega)
  obtain ⟨s0, t1, n1, t2, n2, t3, n3, t4, n4, t5, n5, t6, n6, t7, n7, t8, n8, t9, n9, t10, n10, t11, n11, t12, n12, t13, n13, t14, n14, t15, n15, t16, n16, t17, n17, t18, n18, p1, p2, p3, p4, p5, p6, p7, p8, p9, p10, p11, p12, p13, p14, p15, p16, p17, p18⟩ := id hM
  have h20 := zq_20
  simp (disch := first | assumption | omega | exact Nat.le_of_ble_eq_true rfl) only [q_M_putAdded, q_M_putAdded_0, q_M_putAdded_1, q_M_putAdded_3, q_M_putAdded_5, q_M_putAdded_8, q_M_putAdded_8n, q_M_putAdded_9, q_M_putAdded_12, q_M_putAdded_15, q_M_putAdded_16, q_M_putAdded_17, q_M_putAdded_18, q_M_putAdded_21, q_M_putAdded_24, q_M_putAdded_27, q_M_putAdded_27n, q_M_putAdded_28, q_M_putAdded_31, q_M_putAdded_34, q_M_putAdded_35, q_M_putAdded_36, q_M_putAdded_36n, q_M_putAdded_37, q_M_putAdded_40, q_M_putAdded_41, q_M_putAdded_42, q_M_putAdded_43, q_M_putAdded_45, q_M_putAdded_46, q_M_putAdded_47, q_M_putAdded_48, q_M_putAdded_49, q_M_putAdded_53, q_M_putAdded_56, q_M_putAdded_56n, q_M_putAdded_57, q_M_putAdded_60, q_M_putAdded_63, q_M_putAdded_65, q_M_putAdded_66, q_M_putAdded_67, q_M_putAdded_70, q_M_putAdded_70n, q_M_putAdded_71, q_M_putAdded_74, q_M_putAdded_77, q_M_putAdded_79, q_M_putAdded_80, q_M_putAdded_81, q_M_putAdded_82, q_M_putAdded_83, q_M_putAdded_84, q_M_putAdded_85, q_M_putAdded_86, q_M_putAdded_87, q_M_putAdded_89, q_M_putAdded_90, q_M_putAdded_91, q_M_putAdded_93, q_M_putAdded_96, q_M_putAdded_96n, q_M_putAdded_97, q_M_putAdded_100, q_M_putAdded_101, q_M_putAdded_102, q_M_putAdded_103, q_M_putAdded_103n, q_M_putAdded_104, q_M_putAdded_107, q_M_putAdded_108, q_M_putAdded_109, q_M_putAdded_110, q_M_putAdded_110n, q_M_putAdded_111, q_M_putAdded_114, q_M_putAdded_115, q_M_putAdded_116, q_M_putAdded_117, q_M_putAdded_27, q_M_putAdded_27n, q_M_putAdded_96, q_M_putAdded_96n, Option.bind_some, Option.toList_some, Option.toList_none, List.cons_append, List.nil_append, zq_rf_some, zq_rf_none, ↓reduceIte, zq_lt, zq_le, zq_eq, nI_add, zq_up_s, zq_up_o, zq_up_k, zq_b_eq0, Nat.reduceEqDiff, Nat.reduceLeDiff, Nat.reduceLT, Nat.reduceAdd, not_true_eq_false, not_false_eq_true, Nat.not_lt_zero, zq_on_lt, zq_os, false_or, or_false, or_self, p1, p2, p3, p4, p5, p6, p7, p8, p9, p10, p11, p12, p13, p14, p15, p16, p17, p18, zi_1, zi_2, zi_3, zi_4, zi_5, zi_6, zi_7, zi_8, zi_9, zi_10, zi_11, zi_12, zi_14, zi_15, zi_16, zi_17, zi_18, zi_f0, zi_f1, zi_f11, zi_f15, zi_u1, zi_u2, zi_u3, zi_u4, zi_u5, zi_u6, zi_u7, zi_u8, zi_u9, zi_u10, zi_u11, zi_u12, zi_u14, zi_u15, zi_u16, zi_u17, zi_u18, zi_v0, zi_v1, zi_v11, zi_v15, g1, g2, zq_div2, zr_pa]
