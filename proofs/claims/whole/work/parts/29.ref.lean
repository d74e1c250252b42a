/-! the reference: commit, whole -/
theorem zr_mid_o {S : Nat → Nat → Nat} {p e k j : Nat} (h1 : k ≠ 1) (h2 : k ≠ 2) (h3 : k ≠ 3) (h6 : k ≠ 6) (h8 : k ≠ 8) (h9 : k ≠ 9) : zr_mid S p e k j = S k j := by
  unfold zr_mid
  rw [zr_ads_o h1 h2 h6 h8 h9, zr_rms_o h1 h2 h3, zr_ups_o h1 h2, zr_cp_o h1 h2]
theorem zr_c3_o {S : Nat → Nat → Nat} {p e k j : Nat} (h1 : k ≠ 1) (h2 : k ≠ 2) (h3 : k ≠ 3) (h6 : k ≠ 6) (h8 : k ≠ 8) (h9 : k ≠ 9) : zr_c3 S p e k j = S k j := by
  unfold zr_c3
  rw [zr_mid_o h1 h2 h3 h6 h8 h9, zq_up_o h3]
theorem zr_eq.pth : ∀ (c n : Nat) {S T : Nat → Nat → Nat}, zr_eq S T → zr_eq (zr_pth c n S) (zr_pth c n T)
  | 0, n, S, T, h => h
  | c + 1, n, S, T, h => by
    unfold zr_pth
    split
    · exact h
    · rw [h 0 1 (by decide) (by decide)]
      exact zr_eq.pth c _ (((h.up _ _ _).up _ _ _).up _ _ _)
theorem zr_eq.cb {e : Nat} : ∀ (c n : Nat) {S T : Nat → Nat → Nat}, zr_eq S T → zr_eq (zr_cb e c n S) (zr_cb e c n T)
  | 0, n, S, T, h => h
  | c + 1, n, S, T, h => by
    unfold zr_cb
    rw [h 1 _ (by decide) (by decide), h 2 _ (by decide) (by decide)]
    exact zr_eq.cb c _ ((h.up _ _ _).up _ _ _)
theorem zr_eq.cfin {S S1 T T' : Nat → Nat → Nat} (h : zr_eq T T') (h1 : S1 0 15 = S 0 15) (p e : Nat) : zr_eq (zr_cfin S T p e) (zr_cfin S1 T' p e) := by
  unfold zr_cfin
  rw [h1, h 0 1 (by decide) (by decide), h 0 15 (by decide) (by decide)]
  exact ((((h.up _ _ _).up _ _ _).up _ _ _).up _ _ _).up _ _ _
theorem zr_pth_o {k j : Nat} (h1 : k ≠ 1) (h2 : k ≠ 2) (h0 : k ≠ 0 ∨ j ≠ 1) : ∀ (c n : Nat) (S : Nat → Nat → Nat), zr_pth c n S k j = S k j
  | 0, n, S => rfl
  | c + 1, n, S => by
    unfold zr_pth
    split
    · rfl
    · rw [zr_pth_o h1 h2 h0 c, zq_up_o h2, zq_up_o h1]
      exact h0.elim (fun h => zq_up_o h) (fun h => zq_up_k h)
theorem zr_pth_km {n : Nat} (h8 : 8 ≤ n) (h16 : n < 16) (S : Nat → Nat → Nat) : zr_pth 4 n S 0 1 = S 0 1 + 4 := by
  have a1 : ¬ n = 0 := by omega
  have a2 : ¬ n / 2 = 0 := by omega
  have a3 : ¬ n / 2 / 2 = 0 := by omega
  have a4 : ¬ n / 2 / 2 / 2 = 0 := by omega
  simp only [zr_pth, a1, a2, a3, a4, if_false]
  simp [zq_up]
theorem zr_pth_bd : ∀ (c n : Nat) (S : Nat → Nat → Nat), zr_bd S → S 0 1 + c < 65536 → zr_bd (zr_pth c n S)
  | 0, n, S, h, hk => h
  | c + 1, n, S, h, hk => by
    unfold zr_pth
    split
    · exact h
    · exact zr_pth_bd c _ _ (((h.up (by omega)).up (by omega)).up (by decide)) (by rw [zq_up_o (by decide), zq_up_o (by decide), zq_up_s]; omega)
theorem zr_cb_o {e k j : Nat} (h1 : k ≠ 1) (h2 : k ≠ 2) : ∀ (c n : Nat) (S : Nat → Nat → Nat), zr_cb e c n S k j = S k j
  | 0, n, S => rfl
  | c + 1, n, S => by
    unfold zr_cb
    rw [zr_cb_o h1 h2 c, zq_up_o h2, zq_up_o h1]
theorem zr_cb_bd {e : Nat} : ∀ (c n : Nat) (S : Nat → Nat → Nat), zr_bd S → zr_bd (zr_cb e c n S)
  | 0, n, S, h => h
  | c + 1, n, S, h => zr_cb_bd c _ _ ((h.up (h _ _)).up (h _ _))
theorem zr_sm_bd : ∀ (ms : List (Nat × Nat)) (S : Nat → Nat → Nat), zr_bd S → (∀ q ∈ ms, q.1 < 65536 ∧ q.2 < 65536) → S 0 15 + ms.length < 65536 → zr_bd (zr_sm S ms)
  | [], S, h, hm, hn => h
  | q :: ms, S, h, hm, hn => by
    rw [List.length_cons] at hn
    exact zr_sm_bd ms _ (((h.up (hm q List.mem_cons_self).1).up (hm q List.mem_cons_self).2).up (by omega)) (fun x hx => hm x (List.mem_cons_of_mem _ hx)) (by rw [zr_sd_n]; omega)
theorem zr_wel_b {kd wh lf ow : Nat → Nat} {km mine e : Nat} (hk : km < 60000) (he : e < 1000) (ho : ∀ p, ow p < 65536) : ∀ (c i : Nat), ∀ q ∈ zr_wel kd wh lf ow km mine e c i, q.1 < 65536 ∧ q.2 < 65536
  | 0, i, q, hq => by cases hq
  | c + 1, i, q, hq => by
    unfold zr_wel at hq
    rcases List.mem_append.mp hq with h | h
    · split at h
      · have ml := zr_me_le mine (8 + lf (wh i)) 3 1
        rcases List.mem_cons.mp h with rfl | h
        · exact ⟨by show km + 1 + zr_me mine (8 + lf (wh i)) 3 1 < 65536; omega, ho _⟩
        · rw [List.mem_singleton.mp h]
          exact ⟨by show 1000 + e < 65536; omega, ho _⟩
      · cases h
    · exact zr_wel_b hk he ho c (i + 1) q h
theorem zq_ne_eq' (a n : Nat) (ha : a < 100000) (h : n < 100000) : (nI n - nI 1 = nI a) = (a + 1 = n) := by
  rw [← zq_ne_eq a n ha h]
  exact propext ⟨Eq.symm, Eq.symm⟩
theorem m_M_commit_no {d nx kx r : Nat} {sh : zq_S} {P : zq_P} {S : Nat → Nat → Nat} {I0 : zq_I} (hM : zr_lay r sh P) (hS : zr_ok S) {p : Nat} (hp : p < 10) (h : ¬ S 6 p = 2 ∨ ¬ zr_fi S 1 (S 9 p) = none) : zq_C (d + 1) 95 [.ref r, .int (nI p)] sh (zi r S I0) P nx kx = some (some (.int (-1)), sh, zi r S I0, P, nx, kx) := by
  have l1 := hS.2.2.1 p
  have pr := m_M_proposed (d := d) (nx := nx) (kx := kx) (I0 := I0) hM (k := 1) (w := S 9 p) (by decide) (by omega) hS.2.1 hS.1
  have fl := zq_o_lt (zr_fi S 1 (S 9 p)) (zr_fi_lt hS.2.1)
  have b1 := hS.1.lt 6 p
  obtain ⟨s0, t1, n1, t2, n2, t3, n3, t4, n4, t5, n5, t6, n6, t7, n7, t8, n8, t9, n9, t10, n10, t11, n11, t12, n12, t13, n13, t14, n14, t15, n15, t16, n16, t17, n17, t18, n18, p1, p2, p3, p4, p5, p6, p7, p8, p9, p10, p11, p12, p13, p14, p15, p16, p17, p18⟩ := id hM
  have h0 := zq_in10 hp (show 10 < 2147483648 by decide)
  by_cases c1 : S 6 p = 2
  · have c2 := h.resolve_left (fun q => q c1)
    simp (disch := first | assumption | omega | exact Nat.le_of_ble_eq_true rfl) only [q_M_commit, q_M_commit_0, q_M_commit_0n, q_M_commit_1, q_M_commit_2, q_M_commit_4, q_M_commit_7, q_M_commit_10, q_M_commit_10n, q_M_commit_11, q_M_commit_14, q_M_commit_15, q_M_commit_16, q_M_commit_17, q_M_commit_20, q_M_commit_20n, q_M_commit_21, q_M_commit_22, q_M_commit_22n, q_M_commit_23, q_M_commit_26, q_M_commit_27, q_M_commit_28, q_M_commit_31, q_M_commit_34, q_M_commit_35, q_M_commit_36, q_M_commit_36n, Option.bind_some, Option.toList_some, Option.toList_none, List.cons_append, List.nil_append, zq_rf_some, zq_rf_none, ↓reduceIte, zq_lt, zq_le, zq_eq, nI_add, zq_up_s, zq_up_o, zq_up_k, zq_b_eq0, Nat.reduceEqDiff, Nat.reduceLeDiff, Nat.reduceLT, Nat.reduceAdd, not_true_eq_false, not_false_eq_true, Nat.not_lt_zero, zq_on_lt, zq_os, false_or, or_false, or_self, Bool.false_eq_true, p1, p2, p3, p4, p5, p6, p7, p8, p9, p10, p11, p12, p13, p14, p15, p16, p17, p18, zi_1, zi_2, zi_3, zi_4, zi_5, zi_6, zi_7, zi_8, zi_9, zi_10, zi_11, zi_12, zi_14, zi_15, zi_16, zi_17, zi_18, zi_f0, zi_f1, zi_f11, zi_f15, zi_u1, zi_u2, zi_u3, zi_u4, zi_u5, zi_u6, zi_u7, zi_u8, zi_u9, zi_u10, zi_u11, zi_u12, zi_u14, zi_u15, zi_u16, zi_u17, zi_u18, zi_v0, zi_v1, zi_v11, zi_v15, m_M_out, h0, c1, pr, fl, c2]
  · simp (disch := first | assumption | omega | exact Nat.le_of_ble_eq_true rfl) only [q_M_commit, q_M_commit_0, q_M_commit_0n, q_M_commit_1, q_M_commit_2, q_M_commit_4, q_M_commit_7, q_M_commit_10, q_M_commit_10n, q_M_commit_11, q_M_commit_14, q_M_commit_15, q_M_commit_16, q_M_commit_17, q_M_commit_20, q_M_commit_20n, q_M_commit_21, q_M_commit_22, q_M_commit_22n, q_M_commit_23, q_M_commit_26, q_M_commit_27, q_M_commit_28, q_M_commit_31, q_M_commit_34, q_M_commit_35, q_M_commit_36, q_M_commit_36n, Option.bind_some, Option.toList_some, Option.toList_none, List.cons_append, List.nil_append, zq_rf_some, zq_rf_none, ↓reduceIte, zq_lt, zq_le, zq_eq, nI_add, zq_up_s, zq_up_o, zq_up_k, zq_b_eq0, Nat.reduceEqDiff, Nat.reduceLeDiff, Nat.reduceLT, Nat.reduceAdd, not_true_eq_false, not_false_eq_true, Nat.not_lt_zero, zq_on_lt, zq_os, false_or, or_false, or_self, Bool.false_eq_true, p1, p2, p3, p4, p5, p6, p7, p8, p9, p10, p11, p12, p13, p14, p15, p16, p17, p18, zi_1, zi_2, zi_3, zi_4, zi_5, zi_6, zi_7, zi_8, zi_9, zi_10, zi_11, zi_12, zi_14, zi_15, zi_16, zi_17, zi_18, zi_f0, zi_f1, zi_f11, zi_f15, zi_u1, zi_u2, zi_u3, zi_u4, zi_u5, zi_u6, zi_u7, zi_u8, zi_u9, zi_u10, zi_u11, zi_u12, zi_u14, zi_u15, zi_u16, zi_u17, zi_u18, zi_v0, zi_v1, zi_v11, zi_v15, m_M_out, h0, c1]
theorem m_M_commit_st {d nx kx r : Nat} {sh : zq_S} {P : zq_P} {S : Nat → Nat → Nat} {I0 : zq_I} (hM : zr_lay r sh P) (hS : zr_ok S) {p : Nat} (hp : p < 10) (h1 : S 6 p = 2) (h2 : zr_fi S 1 (S 9 p) = none) (h3 : S 8 p + 1 < S 0 0) : zq_C (d + 1) 95 [.ref r, .int (nI p)] sh (zi r S I0) P nx kx = some (some (.int (-3)), sh, zi r S I0, P, nx, kx) := by
  have l1 := hS.2.2.1 p
  have pr := m_M_proposed (d := d) (nx := nx) (kx := kx) (I0 := I0) hM (k := 1) (w := S 9 p) (by decide) (by omega) hS.2.1 hS.1
  have b0 := hS.1 0 0
  have b1 := hS.1 8 p
  have c3 : ¬ S 0 0 ≤ S 8 p + 1 := by omega
  obtain ⟨s0, t1, n1, t2, n2, t3, n3, t4, n4, t5, n5, t6, n6, t7, n7, t8, n8, t9, n9, t10, n10, t11, n11, t12, n12, t13, n13, t14, n14, t15, n15, t16, n16, t17, n17, t18, n18, p1, p2, p3, p4, p5, p6, p7, p8, p9, p10, p11, p12, p13, p14, p15, p16, p17, p18⟩ := id hM
  have h0 := zq_in10 hp (show 10 < 2147483648 by decide)
  simp (disch := first | assumption | omega | exact Nat.le_of_ble_eq_true rfl) only [q_M_commit, q_M_commit_0, q_M_commit_0n, q_M_commit_1, q_M_commit_2, q_M_commit_4, q_M_commit_7, q_M_commit_10, q_M_commit_10n, q_M_commit_11, q_M_commit_14, q_M_commit_15, q_M_commit_16, q_M_commit_17, q_M_commit_20, q_M_commit_20n, q_M_commit_21, q_M_commit_22, q_M_commit_22n, q_M_commit_23, q_M_commit_26, q_M_commit_27, q_M_commit_28, q_M_commit_31, q_M_commit_34, q_M_commit_35, q_M_commit_36, q_M_commit_36n, q_M_commit_37, q_M_commit_40, q_M_commit_41, q_M_commit_42, q_M_commit_42n, q_M_commit_43, q_M_commit_46, q_M_commit_49, q_M_commit_51, q_M_commit_52, q_M_commit_52n, q_M_commit_53, q_M_commit_56, q_M_commit_58, q_M_commit_61, q_M_commit_61n, q_M_commit_62, q_M_commit_65, q_M_commit_67, q_M_commit_70, q_M_commit_72, Option.bind_some, Option.toList_some, Option.toList_none, List.cons_append, List.nil_append, zq_rf_some, zq_rf_none, ↓reduceIte, zq_lt, zq_le, zq_eq, nI_add, zq_up_s, zq_up_o, zq_up_k, zq_b_eq0, Nat.reduceEqDiff, Nat.reduceLeDiff, Nat.reduceLT, Nat.reduceAdd, not_true_eq_false, not_false_eq_true, Nat.not_lt_zero, zq_on_lt, zq_os, false_or, or_false, or_self, Bool.false_eq_true, p1, p2, p3, p4, p5, p6, p7, p8, p9, p10, p11, p12, p13, p14, p15, p16, p17, p18, zi_1, zi_2, zi_3, zi_4, zi_5, zi_6, zi_7, zi_8, zi_9, zi_10, zi_11, zi_12, zi_14, zi_15, zi_16, zi_17, zi_18, zi_f0, zi_f1, zi_f11, zi_f15, zi_u1, zi_u2, zi_u3, zi_u4, zi_u5, zi_u6, zi_u7, zi_u8, zi_u9, zi_u10, zi_u11, zi_u12, zi_u14, zi_u15, zi_u16, zi_u17, zi_u18, zi_v0, zi_v1, zi_v11, zi_v15, m_M_out, h0, h1, pr, h2, zq_ne_le, c3]
theorem m_M_commit_fu {d nx kx r : Nat} {sh : zq_S} {P : zq_P} {S : Nat → Nat → Nat} {I0 : zq_I} (hM : zr_lay r sh P) (hS : zr_ok S) {p : Nat} (hp : p < 10) (h1 : S 6 p = 2) (h2 : zr_fi S 1 (S 9 p) = none) (h3 : S 0 0 ≤ S 8 p + 1) (h4 : S 0 0 = 21 ∨ 116 < S 0 1) : zq_C (d + 1) 95 [.ref r, .int (nI p)] sh (zi r S I0) P nx kx = some (some (.int (-2)), sh, zi r S I0, P, nx, kx) := by
  have l1 := hS.2.2.1 p
  have pr := m_M_proposed (d := d) (nx := nx) (kx := kx) (I0 := I0) hM (k := 1) (w := S 9 p) (by decide) (by omega) hS.2.1 hS.1
  have b0 := hS.1 0 0
  have b1 := hS.1 8 p
  have b2 := hS.1 0 1
  obtain ⟨s0, t1, n1, t2, n2, t3, n3, t4, n4, t5, n5, t6, n6, t7, n7, t8, n8, t9, n9, t10, n10, t11, n11, t12, n12, t13, n13, t14, n14, t15, n15, t16, n16, t17, n17, t18, n18, p1, p2, p3, p4, p5, p6, p7, p8, p9, p10, p11, p12, p13, p14, p15, p16, p17, p18⟩ := id hM
  have h0 := zq_in10 hp (show 10 < 2147483648 by decide)
  by_cases c1 : S 0 0 = 21
  · simp (disch := first | assumption | omega | exact Nat.le_of_ble_eq_true rfl) only [q_M_commit, q_M_commit_0, q_M_commit_0n, q_M_commit_1, q_M_commit_2, q_M_commit_4, q_M_commit_7, q_M_commit_10, q_M_commit_10n, q_M_commit_11, q_M_commit_14, q_M_commit_15, q_M_commit_16, q_M_commit_17, q_M_commit_20, q_M_commit_20n, q_M_commit_21, q_M_commit_22, q_M_commit_22n, q_M_commit_23, q_M_commit_26, q_M_commit_27, q_M_commit_28, q_M_commit_31, q_M_commit_34, q_M_commit_35, q_M_commit_36, q_M_commit_36n, q_M_commit_37, q_M_commit_40, q_M_commit_41, q_M_commit_42, q_M_commit_42n, q_M_commit_43, q_M_commit_46, q_M_commit_49, q_M_commit_51, q_M_commit_52, q_M_commit_52n, q_M_commit_53, q_M_commit_56, q_M_commit_58, q_M_commit_61, q_M_commit_61n, q_M_commit_62, q_M_commit_65, q_M_commit_67, q_M_commit_70, q_M_commit_72, Option.bind_some, Option.toList_some, Option.toList_none, List.cons_append, List.nil_append, zq_rf_some, zq_rf_none, ↓reduceIte, zq_lt, zq_le, zq_eq, nI_add, zq_up_s, zq_up_o, zq_up_k, zq_b_eq0, Nat.reduceEqDiff, Nat.reduceLeDiff, Nat.reduceLT, Nat.reduceAdd, not_true_eq_false, not_false_eq_true, Nat.not_lt_zero, zq_on_lt, zq_os, false_or, or_false, or_self, Bool.false_eq_true, p1, p2, p3, p4, p5, p6, p7, p8, p9, p10, p11, p12, p13, p14, p15, p16, p17, p18, zi_1, zi_2, zi_3, zi_4, zi_5, zi_6, zi_7, zi_8, zi_9, zi_10, zi_11, zi_12, zi_14, zi_15, zi_16, zi_17, zi_18, zi_f0, zi_f1, zi_f11, zi_f15, zi_u1, zi_u2, zi_u3, zi_u4, zi_u5, zi_u6, zi_u7, zi_u8, zi_u9, zi_u10, zi_u11, zi_u12, zi_u14, zi_u15, zi_u16, zi_u17, zi_u18, zi_v0, zi_v1, zi_v11, zi_v15, m_M_out, h0, h1, pr, h2, zq_ne_le, h3, zq_ne_eq', c1, show 21 ≤ S 8 p + 1 by omega]
  · have c2 : ¬ S 0 1 ≤ 116 := by omega
    have c1' : ¬ 21 = S 0 0 := fun q => c1 q.symm
    simp (disch := first | assumption | omega | exact Nat.le_of_ble_eq_true rfl) only [q_M_commit, q_M_commit_0, q_M_commit_0n, q_M_commit_1, q_M_commit_2, q_M_commit_4, q_M_commit_7, q_M_commit_10, q_M_commit_10n, q_M_commit_11, q_M_commit_14, q_M_commit_15, q_M_commit_16, q_M_commit_17, q_M_commit_20, q_M_commit_20n, q_M_commit_21, q_M_commit_22, q_M_commit_22n, q_M_commit_23, q_M_commit_26, q_M_commit_27, q_M_commit_28, q_M_commit_31, q_M_commit_34, q_M_commit_35, q_M_commit_36, q_M_commit_36n, q_M_commit_37, q_M_commit_40, q_M_commit_41, q_M_commit_42, q_M_commit_42n, q_M_commit_43, q_M_commit_46, q_M_commit_49, q_M_commit_51, q_M_commit_52, q_M_commit_52n, q_M_commit_53, q_M_commit_56, q_M_commit_58, q_M_commit_61, q_M_commit_61n, q_M_commit_62, q_M_commit_65, q_M_commit_67, q_M_commit_70, q_M_commit_72, Option.bind_some, Option.toList_some, Option.toList_none, List.cons_append, List.nil_append, zq_rf_some, zq_rf_none, ↓reduceIte, zq_lt, zq_le, zq_eq, nI_add, zq_up_s, zq_up_o, zq_up_k, zq_b_eq0, Nat.reduceEqDiff, Nat.reduceLeDiff, Nat.reduceLT, Nat.reduceAdd, not_true_eq_false, not_false_eq_true, Nat.not_lt_zero, zq_on_lt, zq_os, false_or, or_false, or_self, Bool.false_eq_true, p1, p2, p3, p4, p5, p6, p7, p8, p9, p10, p11, p12, p13, p14, p15, p16, p17, p18, zi_1, zi_2, zi_3, zi_4, zi_5, zi_6, zi_7, zi_8, zi_9, zi_10, zi_11, zi_12, zi_14, zi_15, zi_16, zi_17, zi_18, zi_f0, zi_f1, zi_f11, zi_f15, zi_u1, zi_u2, zi_u3, zi_u4, zi_u5, zi_u6, zi_u7, zi_u8, zi_u9, zi_u10, zi_u11, zi_u12, zi_u14, zi_u15, zi_u16, zi_u17, zi_u18, zi_v0, zi_v1, zi_v11, zi_v15, m_M_out, h0, h1, pr, h2, zq_ne_le, h3, zq_ne_eq', c1', c2]
theorem m_M_commit {d nx kx r : Nat} {sh : zq_S} {P : zq_P} {S : Nat → Nat → Nat} {I0 : zq_I} (hM : zr_lay r sh P) (hS : zr_ok S) {p e : Nat} (hp : p < 10) (he : e < 20) (h0e : S 0 0 = e + 1) (h1 : S 6 p = 2) (h2 : zr_fi S 1 (S 9 p) = none) (h3 : S 0 0 ≤ S 8 p + 1) (h4 : S 0 1 ≤ 116) (h5 : S 0 15 ≤ 500) (hre : ∀ m, 1 ≤ m → m < 16 → (zr_re (fun x => zr_c3 S p e 1 (336 + x)) (fun x => zr_c3 S p e 2 (336 + x)) m).length ≤ 16) :
    ∃ S', zq_C (d + 3) 95 [.ref r, .int (nI p)] sh (zi r S I0) P nx kx = some (some (.int (nI (e + 1))), sh, zi r S' I0, P, nx, kx) ∧ zr_eq (zr_commit S p e) S' ∧ zr_bd S' := by
  have l1 := hS.2.2.1 p
  have pr := m_M_proposed (d := d + 2) (nx := nx) (kx := kx) (I0 := I0) hM (k := 1) (w := S 9 p) (by decide) (by omega) hS.2.1 hS.1
  have b0 := hS.1 0 0
  have b1 := hS.1 8 p
  have b2 := hS.1 0 1
  have hS1 : zr_ok (zq_up S 3 (e + 1) 0) := hS.up (by decide) (by decide) (by decide) (by decide) (by decide)
  have mid := m_M_middle (d := d + 1) (nx := nx) (kx := kx) (I0 := I0) (S := zq_up S 3 (e + 1) 0) hM hS1 hp he (by rw [zq_up_o (by decide)]; exact h0e)
  have hS2 : zr_ok (zr_c3 S p e) := hS1.mid he
  have f01 : zr_c3 S p e 0 1 = S 0 1 := zr_c3_o (by decide) (by decide) (by decide) (by decide) (by decide) (by decide)
  have f15 : zr_c3 S p e 0 15 = S 0 15 := zr_c3_o (by decide) (by decide) (by decide) (by decide) (by decide) (by decide)
  have f11 : zr_c3 S p e 0 11 = S 0 11 := zr_c3_o (by decide) (by decide) (by decide) (by decide) (by decide) (by decide)
  obtain ⟨S3, g1, g2, g3⟩ := m_M_sendPath (d := d) (nx := nx) (kx := kx) (I0 := I0) (S := zr_c3 S p e) hM hS2 (fun x => zr_c3 S p e 1 (336 + x)) (fun x => zr_c3 S p e 2 (336 + x)) (fun x _ => rfl) (fun x _ => rfl) hre (b := 8 + S 9 p) (by omega) (by omega) (by rw [f01]; omega) (by rw [f15]; omega)
  rw [f01] at g2
  have hpl : (zr_pm (fun x => zr_c3 S p e 1 (336 + x)) (fun x => zr_c3 S p e 2 (336 + x)) (zr_ad (zr_c3 S p e)) 3 (8 + S 9 p) ((8 + S 9 p) / 2) (S 0 1)).length ≤ 48 := by
    have key : ∀ (c b q k : Nat), q < 8 → (q ≠ 0 → 2 ≤ b ∧ b < 16) → (zr_pm (fun x => zr_c3 S p e 1 (336 + x)) (fun x => zr_c3 S p e 2 (336 + x)) (zr_ad (zr_c3 S p e)) c b q k).length ≤ 16 * c := by
      intro c
      induction c with
      | zero => intro b q k _ _; exact Nat.le_refl _
      | succ c ih =>
        intro b q k hq hb
        unfold zr_pm
        split
        · simp
        · rename_i hq0
          obtain ⟨x1, x2⟩ := zr_xor1 b (hb hq0).2 (hb hq0).1
          have a1 := zr_lm_len (K := fun x => zr_c3 S p e 1 (336 + x)) (ad := zr_ad (zr_c3 S p e)) (k := k + 2) (xs := zr_re (fun x => zr_c3 S p e 1 (336 + x)) (fun x => zr_c3 S p e 2 (336 + x)) (b ^^^ 1))
          have a2 := hre _ x1 x2
          have a3 := ih q (q / 2) (k + 1) (by omega) (fun _ => by omega)
          rw [List.length_append]
          omega
    exact key 3 _ _ _ (by omega) (fun _ => by omega)
  have hsm15 := zr_sm_n (zr_pm (fun x => zr_c3 S p e 1 (336 + x)) (fun x => zr_c3 S p e 2 (336 + x)) (zr_ad (zr_c3 S p e)) 3 (8 + S 9 p) ((8 + S 9 p) / 2) (S 0 1)) (zr_c3 S p e)
  have at3 : ∀ k j, k ≠ 17 → k ≠ 18 → k ≠ 13 → k ≠ 14 → (k ≠ 0 ∨ j ≠ 15) → S3 k j = zr_c3 S p e k j := fun k j a b c' d' e' => by rw [g2 k j a b, zr_sm_o c' d' e']
  have k15 : S3 0 15 = S 0 15 + (zr_pm (fun x => zr_c3 S p e 1 (336 + x)) (fun x => zr_c3 S p e 2 (336 + x)) (zr_ad (zr_c3 S p e)) 3 (8 + S 9 p) ((8 + S 9 p) / 2) (S 0 1)).length := by rw [g2 0 15 (by decide) (by decide), hsm15, f15]
  have k01 : S3 0 1 = S 0 1 := by rw [at3 0 1 (by decide) (by decide) (by decide) (by decide) (Or.inr (by decide)), f01]
  have k11 : S3 0 11 = S 0 11 := by rw [at3 0 11 (by decide) (by decide) (by decide) (by decide) (Or.inr (by decide)), f11]
  have hnp := hS.2.1
  have wl := m_M_commit_g1 (d := d + 2) (nx := nx) (kx := kx) (I0 := I0) (v1 := some (.int (nI p))) (v3 := some (.int (nI (S 0 15)))) hM (mine := 8 + S 9 p) (e := e + 1) (km := S 0 1) (np := S 0 11) (S 10) (S 11) (zr_c3 S p e 9) (S 7) (by omega) (by omega) (by omega) hS.2.2.2.1 hS2.2.2.1 hnp (S 0 11) 0 S3 g3
    (fun j => by rw [at3 10 j (by decide) (by decide) (by decide) (by decide) (Or.inl (by decide))]; exact zr_c3_o (by decide) (by decide) (by decide) (by decide) (by decide) (by decide))
    (fun j => by rw [at3 11 j (by decide) (by decide) (by decide) (by decide) (Or.inl (by decide))]; exact zr_c3_o (by decide) (by decide) (by decide) (by decide) (by decide) (by decide))
    (fun j => at3 9 j (by decide) (by decide) (by decide) (by decide) (Or.inl (by decide)))
    (fun j => by rw [at3 7 j (by decide) (by decide) (by decide) (by decide) (Or.inl (by decide))]; exact zr_c3_o (by decide) (by decide) (by decide) (by decide) (by decide) (by decide))
    k01 k11 (Nat.zero_add _) (by rw [k15]; omega)
  generalize hW : zr_wel (S 10) (S 11) (zr_c3 S p e 9) (S 7) (S 0 1) (8 + S 9 p) (e + 1) (S 0 11) 0 = W at wl
  have hWl : W.length ≤ 64 := by rw [← hW]; exact Nat.le_trans (zr_wel_len _ _) (by omega)
  have g2' := m_M_commit_g2 (d := d + 3) (nx := nx) (kx := kx) (I0 := I0) (v1 := some (.int (nI p))) (v2 := some (.int (nI (e + 1)))) (v3 := some (.int (nI (S 0 15)))) (v4 := some (.int (nI (8 + S 9 p)))) hM 4 (8 + S 9 p) (zr_sm S3 W) (by omega) (by omega)
  have g3' := m_M_commit_g3 (d := d + 3) (nx := nx) (kx := kx) (I0 := I0) (v1 := some (.int (nI p))) (v3 := some (.int (nI (S 0 15)))) (v4 := some (.int (nI (8 + S 9 p)))) hM (show e + 1 < 21 by omega) 16 0 (zr_pth 4 (8 + S 9 p) (zr_sm S3 W)) rfl
  generalize hT : zr_cb (e + 1) 16 0 (zr_pth 4 (8 + S 9 p) (zr_sm S3 W)) = T at g3'
  have t01 : T 0 1 = S 0 1 + 4 := by rw [← hT, zr_cb_o (by decide) (by decide), zr_pth_km (by omega) (by omega), zr_sm_o (by decide) (by decide) (Or.inr (by decide)), k01]
  have t15 : T 0 15 = S3 0 15 + W.length := by rw [← hT, zr_cb_o (by decide) (by decide), zr_pth_o (by decide) (by decide) (Or.inr (by decide)), zr_sm_n]
  have bdW : zr_bd (zr_sm S3 W) := zr_sm_bd _ _ g3 (by rw [← hW]; exact zr_wel_b (by omega) (by omega) (fun q => hS.1 7 q) _ _) (by rw [k15]; omega)
  have bdT : zr_bd T := by
    rw [← hT]
    exact zr_cb_bd _ _ _ (zr_pth_bd _ _ _ bdW (by rw [zr_sm_o (by decide) (by decide) (Or.inr (by decide)), k01]; omega))
  have hle15 : S 0 15 ≤ T 0 15 := by rw [t15, k15]; omega
  refine ⟨zr_cfin S T p e, ?_, ?_, ?_⟩
  · have hmid : zr_mid (zq_up S 3 (e + 1) 0) p e = zr_c3 S p e := rfl
    rw [hmid] at mid
    have c1' : ¬ e = 20 := by omega
    have c2 : e ≤ S 8 p := by omega
    have sub2 := pk_sub (a := T 0 1) (b := 2) (by omega)
    have sub15 := pk_sub hle15
    have up9 : zq_up S 3 (e + 1) 0 9 p = S 9 p := zq_up_o (by decide)
    obtain ⟨s0, t1, n1, t2, n2, t3, n3, t4, n4, t5, n5, t6, n6, t7, n7, t8, n8, t9, n9, t10, n10, t11, n11, t12, n12, t13, n13, t14, n14, t15, n15, t16, n16, t17, n17, t18, n18, p1, p2, p3, p4, p5, p6, p7, p8, p9, p10, p11, p12, p13, p14, p15, p16, p17, p18⟩ := id hM
    have h0 := zq_in10 hp (show 10 < 2147483648 by decide)
    simp (disch := first | assumption | omega | exact Nat.le_of_ble_eq_true rfl) only [q_M_commit, q_M_commit_0, q_M_commit_0n, q_M_commit_1, q_M_commit_2, q_M_commit_4, q_M_commit_7, q_M_commit_10, q_M_commit_10n, q_M_commit_11, q_M_commit_14, q_M_commit_15, q_M_commit_16, q_M_commit_17, q_M_commit_20, q_M_commit_20n, q_M_commit_21, q_M_commit_22, q_M_commit_22n, q_M_commit_23, q_M_commit_26, q_M_commit_27, q_M_commit_28, q_M_commit_31, q_M_commit_34, q_M_commit_35, q_M_commit_36, q_M_commit_36n, q_M_commit_37, q_M_commit_40, q_M_commit_41, q_M_commit_42, q_M_commit_42n, q_M_commit_43, q_M_commit_46, q_M_commit_49, q_M_commit_51, q_M_commit_52, q_M_commit_52n, q_M_commit_53, q_M_commit_56, q_M_commit_58, q_M_commit_61, q_M_commit_61n, q_M_commit_62, q_M_commit_65, q_M_commit_67, q_M_commit_70, q_M_commit_72, q_M_commit_73, q_M_commit_73n, q_M_commit_74, q_M_commit_77, q_M_commit_78, q_M_commit_79, q_M_commit_80, q_M_commit_80n, q_M_commit_81, q_M_commit_84, q_M_commit_85, q_M_commit_87, q_M_commit_87n, q_M_commit_88, q_M_commit_91, q_M_commit_92, q_M_commit_93, q_M_commit_94, q_M_commit_96, q_M_commit_96n, q_M_commit_97, q_M_commit_100, q_M_commit_101, q_M_commit_102, q_M_commit_103, q_M_commit_103n, q_M_commit_104, q_M_commit_105, q_M_commit_106, q_M_commit_109, q_M_commit_109n, q_M_commit_110, q_M_commit_112, q_M_commit_115, q_M_commit_116, q_M_commit_120, q_M_commit_120n, q_M_commit_121, q_M_commit_124, q_M_commit_127, q_M_commit_127n, q_M_commit_128, q_M_commit_131, q_M_commit_133, q_M_commit_134, q_M_commit_135, q_M_commit_138, q_M_commit_141, q_M_commit_141n, q_M_commit_142, q_M_commit_142n, q_M_commit_143, q_M_commit_146, q_M_commit_147, q_M_commit_148, q_M_commit_148n, q_M_commit_149, q_M_commit_151, q_M_commit_153, q_M_commit_153n, q_M_commit_154, q_M_commit_157, q_M_commit_157n, q_M_commit_158, q_M_commit_161, q_M_commit_163, q_M_commit_164, q_M_commit_165, q_M_commit_166, q_M_commit_169, q_M_commit_170, q_M_commit_170n, q_M_commit_171, q_M_commit_174, q_M_commit_174n, q_M_commit_175, q_M_commit_178, q_M_commit_180, q_M_commit_181, q_M_commit_182, q_M_commit_185, q_M_commit_185n, q_M_commit_186, q_M_commit_187, q_M_commit_188, q_M_commit_188n, q_M_commit_189, q_M_commit_192, q_M_commit_192n, q_M_commit_193, q_M_commit_196, q_M_commit_198, q_M_commit_199, q_M_commit_200, q_M_commit_203, q_M_commit_206, q_M_commit_209, q_M_commit_211, q_M_commit_215, q_M_commit_218, q_M_commit_218n, q_M_commit_219, q_M_commit_219i, q_M_commit_220, q_M_commit_223, q_M_commit_224, q_M_commit_225, q_M_commit_228, q_M_commit_228n, q_M_commit_229, q_M_commit_232, q_M_commit_235, q_M_commit_237, q_M_commit_238, q_M_commit_238n, q_M_commit_239, q_M_commit_242, q_M_commit_243, q_M_commit_243n, q_M_commit_244, q_M_commit_247, q_M_commit_250, q_M_commit_252, q_M_commit_253, q_M_commit_254, q_M_commit_255, q_M_commit_257, q_M_commit_258, q_M_commit_259, q_M_commit_261, q_M_commit_264, q_M_commit_265, q_M_commit_269, q_M_commit_271, q_M_commit_274, q_M_commit_274n, q_M_commit_275, q_M_commit_278, q_M_commit_279, q_M_commit_281, q_M_commit_282, q_M_commit_284, q_M_commit_285, q_M_commit_285n, q_M_commit_286, q_M_commit_289, q_M_commit_292, q_M_commit_294, q_M_commit_295, q_M_commit_296, q_M_commit_297, q_M_commit_297n, q_M_commit_298, q_M_commit_301, q_M_commit_302, q_M_commit_304, q_M_commit_305, q_M_commit_307, q_M_commit_308, q_M_commit_308n, q_M_commit_309, q_M_commit_312, q_M_commit_315, q_M_commit_317, q_M_commit_318, q_M_commit_319, q_M_commit_320, q_M_commit_323, q_M_commit_326, q_M_commit_326n, q_M_commit_327, q_M_commit_330, q_M_commit_331, q_M_commit_331n, q_M_commit_332, q_M_commit_335, q_M_commit_336, q_M_commit_337, q_M_commit_338, q_M_commit_338n, q_M_commit_339, q_M_commit_342, q_M_commit_343, q_M_commit_343n, q_M_commit_344, q_M_commit_347, q_M_commit_348, q_M_commit_349, q_M_commit_350, q_M_commit_350n, q_M_commit_351, q_M_commit_352, q_M_commit_355, q_M_commit_355n, q_M_commit_356, q_M_commit_359, q_M_commit_360, q_M_commit_361, q_M_commit_362, q_M_commit_362n, q_M_commit_363, q_M_commit_364, q_M_commit_367, q_M_commit_368, Option.bind_some, Option.toList_some, Option.toList_none, List.cons_append, List.nil_append, zq_rf_some, zq_rf_none, ↓reduceIte, zq_lt, zq_le, zq_eq, nI_add, zq_up_s, zq_up_o, zq_up_k, zq_b_eq0, Nat.reduceEqDiff, Nat.reduceLeDiff, Nat.reduceLT, Nat.reduceAdd, not_true_eq_false, not_false_eq_true, Nat.not_lt_zero, zq_on_lt, zq_os, false_or, or_false, or_self, Bool.false_eq_true, p1, p2, p3, p4, p5, p6, p7, p8, p9, p10, p11, p12, p13, p14, p15, p16, p17, p18, zi_1, zi_2, zi_3, zi_4, zi_5, zi_6, zi_7, zi_8, zi_9, zi_10, zi_11, zi_12, zi_14, zi_15, zi_16, zi_17, zi_18, zi_f0, zi_f1, zi_f11, zi_f15, zi_u1, zi_u2, zi_u3, zi_u4, zi_u5, zi_u6, zi_u7, zi_u8, zi_u9, zi_u10, zi_u11, zi_u12, zi_u14, zi_u15, zi_u16, zi_u17, zi_u18, zi_v0, zi_v1, zi_v11, zi_v15, m_M_out, h0, h1, pr, h2, h0e, zq_pred, c2, c1', h4, mid, g1]
    rw [wl, g2', g3']
    rw [q_M_commit_326]
    simp (disch := first | assumption | omega | exact Nat.le_of_ble_eq_true rfl) only [q_M_commit_327, q_M_commit_330, q_M_commit_331, q_M_commit_331n, q_M_commit_332, q_M_commit_335, q_M_commit_336, q_M_commit_337, q_M_commit_338, q_M_commit_338n, q_M_commit_339, q_M_commit_342, q_M_commit_343, q_M_commit_343n, q_M_commit_344, q_M_commit_347, q_M_commit_348, q_M_commit_349, q_M_commit_350, q_M_commit_350n, q_M_commit_351, q_M_commit_352, q_M_commit_355, q_M_commit_355n, q_M_commit_356, q_M_commit_359, q_M_commit_360, q_M_commit_361, q_M_commit_362, q_M_commit_362n, q_M_commit_363, q_M_commit_364, q_M_commit_367, q_M_commit_368, Option.bind_some, Option.toList_some, Option.toList_none, List.cons_append, List.nil_append, zq_rf_some, zq_rf_none, ↓reduceIte, zq_lt, zq_le, zq_eq, nI_add, zq_up_s, zq_up_o, zq_up_k, zq_b_eq0, Nat.reduceEqDiff, Nat.reduceLeDiff, Nat.reduceLT, Nat.reduceAdd, not_true_eq_false, not_false_eq_true, Nat.not_lt_zero, zq_on_lt, zq_os, false_or, or_false, or_self, Bool.false_eq_true, p1, p2, p3, p4, p5, p6, p7, p8, p9, p10, p11, p12, p13, p14, p15, p16, p17, p18, zi_1, zi_2, zi_3, zi_4, zi_5, zi_6, zi_7, zi_8, zi_9, zi_10, zi_11, zi_12, zi_14, zi_15, zi_16, zi_17, zi_18, zi_f0, zi_f1, zi_f11, zi_f15, zi_u1, zi_u2, zi_u3, zi_u4, zi_u5, zi_u6, zi_u7, zi_u8, zi_u9, zi_u10, zi_u11, zi_u12, zi_u14, zi_u15, zi_u16, zi_u17, zi_u18, zi_v0, zi_v1, zi_v11, zi_v15, sub2, sub15, zr_cfin]
  · unfold zr_commit
    refine zr_eq.cfin ?_ rfl p e
    rw [← hT]
    apply zr_eq.cb
    apply zr_eq.pth
    unfold zr_cmm
    rw [zr_sm_app, hW]
    exact zr_eq.sm _ g2
  · unfold zr_cfin
    exact ((((bdT.up (by rw [t01]; omega)).up (by rw [t15, k15]; omega)).up (by omega)).up (by omega)).up (by decide)
