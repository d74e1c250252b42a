/-! the reference: the resolution -/
def zr_ob (u : Nat) : Nat → Nat → List Nat
  | 0, _ => []
  | c + 1, l => if zq_bt u l = 0 then zr_ob u c (l + 1) else (8 + l) :: zr_ob u c (l + 1)
def zr_rl (K U : Nat → Nat) : Nat → Nat → List Nat
  | 0, _ => []
  | c + 1, m => if K m = 0 then (if m < 8 then zr_rl K U c (2 * m) ++ zr_rl K U c (2 * m + 1) else []) else m :: zr_ob (U m) 8 0
def zr_lv (m : Nat) : Nat := if 8 ≤ m then 1 else if 4 ≤ m then 2 else if 2 ≤ m then 3 else 4
def zr_re (K U : Nat → Nat) (m : Nat) : List Nat := zr_rl K U (zr_lv m) m
def zr_sz (m : Nat) : Nat := if 8 ≤ m then 1 else if 4 ≤ m then 2 else if 2 ≤ m then 4 else 8
theorem zr_lv_p (m : Nat) : ∃ c, zr_lv m = c + 1 := by
  unfold zr_lv
  split
  · exact ⟨0, rfl⟩
  · split
    · exact ⟨1, rfl⟩
    · split
      · exact ⟨2, rfl⟩
      · exact ⟨3, rfl⟩
theorem zr_re_k {K U : Nat → Nat} {m : Nat} (h : ¬ K m = 0) : zr_re K U m = m :: zr_ob (U m) 8 0 := by
  unfold zr_re
  obtain ⟨c, hc⟩ := zr_lv_p m
  rw [hc]
  simp only [zr_rl, h, if_false]
theorem zr_re_l {K U : Nat → Nat} {m : Nat} (h : K m = 0) (hm : 8 ≤ m) : zr_re K U m = [] := by
  unfold zr_re
  obtain ⟨c, hc⟩ := zr_lv_p m
  rw [hc]
  simp only [zr_rl, h, if_true]
  rw [if_neg (by omega)]
theorem zr_re_b {K U : Nat → Nat} {m : Nat} (h : K m = 0) (h1 : 1 ≤ m) (hm : m < 8) : zr_re K U m = zr_re K U (2 * m) ++ zr_re K U (2 * m + 1) := by
  rcases (show m = 1 ∨ m = 2 ∨ m = 3 ∨ m = 4 ∨ m = 5 ∨ m = 6 ∨ m = 7 by omega) with rfl | rfl | rfl | rfl | rfl | rfl | rfl <;>
    simp only [zr_re, zr_lv, Nat.reduceLeDiff, if_true, if_false, Nat.reduceMul, Nat.reduceAdd] <;>
    (conv => lhs; unfold zr_rl) <;>
    simp only [h, if_true, Nat.reduceLT, Nat.reduceMul, Nat.reduceAdd]
theorem zr_sz_b {m : Nat} (h1 : 1 ≤ m) (hm : m < 8) : zr_sz (2 * m) + zr_sz (2 * m + 1) = zr_sz m := by
  rcases (show m = 1 ∨ m = 2 ∨ m = 3 ∨ m = 4 ∨ m = 5 ∨ m = 6 ∨ m = 7 by omega) with rfl | rfl | rfl | rfl | rfl | rfl | rfl <;> rfl
theorem zr_sz_p (m : Nat) : 1 ≤ zr_sz m := by
  unfold zr_sz
  split
  · decide
  · split
    · decide
    · split <;> decide
def zr_wl (S : Nat → Nat → Nat) : Nat → List Nat → (Nat → Nat → Nat)
  | _, [] => S
  | n, x :: xs => zr_wl (zq_up S 17 n x) (n + 1) xs
theorem zr_wl_o {k j : Nat} (hk : k ≠ 17) : ∀ (xs : List Nat) (n : Nat) (S : Nat → Nat → Nat), zr_wl S n xs k j = S k j
  | [], n, S => rfl
  | x :: xs, n, S => by
    unfold zr_wl
    rw [zr_wl_o hk xs, zq_up_o hk]
theorem zr_wl_lo {j : Nat} : ∀ (xs : List Nat) (n : Nat) (S : Nat → Nat → Nat), j < n → zr_wl S n xs 17 j = S 17 j
  | [], n, S, h => rfl
  | x :: xs, n, S, h => by
    unfold zr_wl
    rw [zr_wl_lo xs (n + 1) _ (by omega), zq_up_k (by omega)]
theorem zr_wl_at : ∀ (xs : List Nat) (n j : Nat) (S : Nat → Nat → Nat) (v : Nat), xs[j]? = some v → zr_wl S n xs 17 (n + j) = v
  | [], n, j, S, v, h => by simp at h
  | x :: xs, n, 0, S, v, h => by
    unfold zr_wl
    rw [zr_wl_lo xs (n + 1) _ (by omega)]
    simp at h
    simp [zq_up, h]
  | x :: xs, n, j + 1, S, v, h => by
    unfold zr_wl
    have := zr_wl_at xs (n + 1) j (zq_up S 17 n x) v (by simpa using h)
    rw [← this]
    congr 1
    omega
theorem zr_wl_bd : ∀ (xs : List Nat) (n : Nat) (S : Nat → Nat → Nat), zr_bd S → (∀ x ∈ xs, x < 65536) → zr_bd (zr_wl S n xs)
  | [], n, S, h, hx => h
  | x :: xs, n, S, h, hx => zr_wl_bd xs _ _ (h.up (hx x List.mem_cons_self)) (fun y hy => hx y (List.mem_cons_of_mem _ hy))
theorem zr_ob_lt {u : Nat} : ∀ (c l : Nat), l + c ≤ 8 → ∀ x ∈ zr_ob u c l, x < 16
  | 0, l, h, x, hx => by cases hx
  | c + 1, l, h, x, hx => by
    unfold zr_ob at hx
    split at hx
    · exact zr_ob_lt c (l + 1) (by omega) x hx
    · rcases List.mem_cons.mp hx with rfl | hx
      · omega
      · exact zr_ob_lt c (l + 1) (by omega) x hx
theorem m_M_resolve_in {d nx kx r row m dp : Nat} {sh : zq_S} {P : zq_P} {I0 : zq_I} (hM : zr_lay r sh P) {v2 : Option Value} (hrow : row < 22) (hm : m < 16) : ∀ (c l n : Nat) (S : Nat → Nat → Nat), zr_bd S → l + c = 8 → n + (zr_ob (S 2 (row * 16 + m)) c l).length ≤ 16 → zq_F d 90 58 [some (.ref r), some (.int (nI row)), v2, some (.int (nI n)), some (.int (nI dp)), some (.int (nI m)), some (.int (nI l))] [] sh (zi r S I0) P nx kx = zq_F d 90 12 [some (.ref r), some (.int (nI row)), v2, some (.int (nI (n + (zr_ob (S 2 (row * 16 + m)) c l).length))), some (.int (nI dp)), some (.int (nI m)), some (.int (nI 8))] [] sh (zi r (zr_wl S n (zr_ob (S 2 (row * 16 + m)) c l)) I0) P nx kx
  | 0, l, n, S, hS, h, hn => by
    have h1 : 8 ≤ l := by omega
    have h2 : l = 8 := by omega
    subst h2
    rw [q_M_resolve_58]
    simp (disch := first | assumption | omega | exact Nat.le_of_ble_eq_true rfl) only [q_M_resolve_60, q_M_resolve_62, q_M_resolve_65, q_M_resolve_65n, q_M_resolve_66, q_M_resolve_69, q_M_resolve_70, q_M_resolve_72, q_M_resolve_73, q_M_resolve_75, q_M_resolve_76, q_M_resolve_77, q_M_resolve_79, q_M_resolve_80, q_M_resolve_81, q_M_resolve_82, q_M_resolve_85, q_M_resolve_88, q_M_resolve_88n, q_M_resolve_89, q_M_resolve_92, q_M_resolve_93, q_M_resolve_95, q_M_resolve_97, q_M_resolve_98, q_M_resolve_99, q_M_resolve_102, q_M_resolve_105, q_M_resolve_108, q_M_resolve_111, q_M_resolve_113, q_M_resolve_115, q_M_resolve_118, q_M_resolve_118n, q_M_resolve_119, q_M_resolve_122, q_M_resolve_124, q_M_resolve_125, q_M_resolve_127, q_M_resolve_128, q_M_resolve_129, q_M_resolve_130, q_M_resolve_131, q_M_resolve_131n, q_M_resolve_132, q_M_resolve_135, q_M_resolve_137, q_M_resolve_138, q_M_resolve_139, q_M_resolve_140, q_M_resolve_142, q_M_resolve_143, q_M_resolve_144, q_M_resolve_147, Option.bind_some, Option.toList_some, Option.toList_none, List.cons_append, List.nil_append, zq_rf_some, zq_rf_none, ↓reduceIte, zq_lt, zq_le, zq_eq, nI_add, zq_up_s, zq_up_o, zq_up_k, zq_b_eq0, Nat.reduceEqDiff, Nat.reduceLeDiff, Nat.reduceLT, Nat.reduceAdd, not_true_eq_false, not_false_eq_true, Nat.not_lt_zero, zq_on_lt, zq_os, false_or, or_false, or_self, zr_ob, List.length_nil, Nat.add_zero, zr_wl, h1]
  | c + 1, l, n, S, hS, h, hn => by
    have h1 : ¬ 8 ≤ l := by omega
    have b1 := hS.lt 2 (row * 16 + m)
    have b2 := zq_bt_lt (S 2 (row * 16 + m)) l
    by_cases c1 : zq_bt (S 2 (row * 16 + m)) l = 0
    · have e1 : zr_ob (S 2 (row * 16 + m)) (c + 1) l = zr_ob (S 2 (row * 16 + m)) c (l + 1) := by
        conv => lhs; unfold zr_ob
        rw [if_pos c1]
      rw [e1] at hn ⊢
      have ih := m_M_resolve_in (d := d) (nx := nx) (kx := kx) (dp := dp) (I0 := I0) (v2 := v2) hM hrow hm c (l + 1) n S hS (by omega) hn
      obtain ⟨s0, t1, n1, t2, n2, t3, n3, t4, n4, t5, n5, t6, n6, t7, n7, t8, n8, t9, n9, t10, n10, t11, n11, t12, n12, t13, n13, t14, n14, t15, n15, t16, n16, t17, n17, t18, n18, p1, p2, p3, p4, p5, p6, p7, p8, p9, p10, p11, p12, p13, p14, p15, p16, p17, p18⟩ := id hM
      rw [q_M_resolve_58]
      simp (disch := first | assumption | omega | exact Nat.le_of_ble_eq_true rfl) only [q_M_resolve_60, q_M_resolve_62, q_M_resolve_65, q_M_resolve_65n, q_M_resolve_66, q_M_resolve_69, q_M_resolve_70, q_M_resolve_72, q_M_resolve_73, q_M_resolve_75, q_M_resolve_76, q_M_resolve_77, q_M_resolve_79, q_M_resolve_80, q_M_resolve_81, q_M_resolve_82, q_M_resolve_85, q_M_resolve_88, q_M_resolve_88n, q_M_resolve_89, q_M_resolve_92, q_M_resolve_93, q_M_resolve_95, q_M_resolve_97, q_M_resolve_98, q_M_resolve_99, q_M_resolve_102, q_M_resolve_105, q_M_resolve_108, q_M_resolve_111, q_M_resolve_113, q_M_resolve_115, q_M_resolve_118, q_M_resolve_118n, q_M_resolve_119, q_M_resolve_122, q_M_resolve_124, q_M_resolve_125, q_M_resolve_127, q_M_resolve_128, q_M_resolve_129, q_M_resolve_130, q_M_resolve_131, q_M_resolve_131n, q_M_resolve_132, q_M_resolve_135, q_M_resolve_137, q_M_resolve_138, q_M_resolve_139, q_M_resolve_140, q_M_resolve_142, q_M_resolve_143, q_M_resolve_144, q_M_resolve_147, Option.bind_some, Option.toList_some, Option.toList_none, List.cons_append, List.nil_append, zq_rf_some, zq_rf_none, ↓reduceIte, zq_lt, zq_le, zq_eq, nI_add, zq_up_s, zq_up_o, zq_up_k, zq_b_eq0, Nat.reduceEqDiff, Nat.reduceLeDiff, Nat.reduceLT, Nat.reduceAdd, not_true_eq_false, not_false_eq_true, Nat.not_lt_zero, zq_on_lt, zq_os, false_or, or_false, or_self, p1, p2, p3, p4, p5, p6, p7, p8, p9, p10, p11, p12, p13, p14, p15, p16, p17, p18, zi_1, zi_2, zi_3, zi_4, zi_5, zi_6, zi_7, zi_8, zi_9, zi_10, zi_11, zi_12, zi_14, zi_15, zi_16, zi_17, zi_18, zi_f0, zi_f1, zi_f11, zi_f15, zi_u1, zi_u2, zi_u3, zi_u4, zi_u5, zi_u6, zi_u7, zi_u8, zi_u9, zi_u10, zi_u11, zi_u12, zi_u14, zi_u15, zi_u16, zi_u17, zi_u18, zi_v0, zi_v1, zi_v11, zi_v15, h1, pk_mul, zq_bit, c1, ih]
    · have e1 : zr_ob (S 2 (row * 16 + m)) (c + 1) l = (8 + l) :: zr_ob (S 2 (row * 16 + m)) c (l + 1) := by
        conv => lhs; unfold zr_ob
        rw [if_neg c1]
      rw [e1] at hn ⊢
      rw [List.length_cons] at hn
      have o2 : zq_up S 17 n (8 + l) 2 (row * 16 + m) = S 2 (row * 16 + m) := zq_up_o (by decide)
      have ih := m_M_resolve_in (d := d) (nx := nx) (kx := kx) (dp := dp) (I0 := I0) (v2 := v2) hM hrow hm c (l + 1) (n + 1) (zq_up S 17 n (8 + l)) (hS.up (by omega)) (by omega) (by rw [o2]; omega)
      rw [o2] at ih
      obtain ⟨s0, t1, n1, t2, n2, t3, n3, t4, n4, t5, n5, t6, n6, t7, n7, t8, n8, t9, n9, t10, n10, t11, n11, t12, n12, t13, n13, t14, n14, t15, n15, t16, n16, t17, n17, t18, n18, p1, p2, p3, p4, p5, p6, p7, p8, p9, p10, p11, p12, p13, p14, p15, p16, p17, p18⟩ := id hM
      rw [q_M_resolve_58]
      simp (disch := first | assumption | omega | exact Nat.le_of_ble_eq_true rfl) only [q_M_resolve_60, q_M_resolve_62, q_M_resolve_65, q_M_resolve_65n, q_M_resolve_66, q_M_resolve_69, q_M_resolve_70, q_M_resolve_72, q_M_resolve_73, q_M_resolve_75, q_M_resolve_76, q_M_resolve_77, q_M_resolve_79, q_M_resolve_80, q_M_resolve_81, q_M_resolve_82, q_M_resolve_85, q_M_resolve_88, q_M_resolve_88n, q_M_resolve_89, q_M_resolve_92, q_M_resolve_93, q_M_resolve_95, q_M_resolve_97, q_M_resolve_98, q_M_resolve_99, q_M_resolve_102, q_M_resolve_105, q_M_resolve_108, q_M_resolve_111, q_M_resolve_113, q_M_resolve_115, q_M_resolve_118, q_M_resolve_118n, q_M_resolve_119, q_M_resolve_122, q_M_resolve_124, q_M_resolve_125, q_M_resolve_127, q_M_resolve_128, q_M_resolve_129, q_M_resolve_130, q_M_resolve_131, q_M_resolve_131n, q_M_resolve_132, q_M_resolve_135, q_M_resolve_137, q_M_resolve_138, q_M_resolve_139, q_M_resolve_140, q_M_resolve_142, q_M_resolve_143, q_M_resolve_144, q_M_resolve_147, Option.bind_some, Option.toList_some, Option.toList_none, List.cons_append, List.nil_append, zq_rf_some, zq_rf_none, ↓reduceIte, zq_lt, zq_le, zq_eq, nI_add, zq_up_s, zq_up_o, zq_up_k, zq_b_eq0, Nat.reduceEqDiff, Nat.reduceLeDiff, Nat.reduceLT, Nat.reduceAdd, not_true_eq_false, not_false_eq_true, Nat.not_lt_zero, zq_on_lt, zq_os, false_or, or_false, or_self, p1, p2, p3, p4, p5, p6, p7, p8, p9, p10, p11, p12, p13, p14, p15, p16, p17, p18, zi_1, zi_2, zi_3, zi_4, zi_5, zi_6, zi_7, zi_8, zi_9, zi_10, zi_11, zi_12, zi_14, zi_15, zi_16, zi_17, zi_18, zi_f0, zi_f1, zi_f11, zi_f15, zi_u1, zi_u2, zi_u3, zi_u4, zi_u5, zi_u6, zi_u7, zi_u8, zi_u9, zi_u10, zi_u11, zi_u12, zi_u14, zi_u15, zi_u16, zi_u17, zi_u18, zi_v0, zi_v1, zi_v11, zi_v15, h1, pk_mul, zq_bit, c1, ih, List.length_cons, zr_wl]
      rw [Nat.add_assoc n 1, Nat.add_comm 1]
theorem m_M_resolve_out {d nx kx r row : Nat} {sh : zq_S} {P : zq_P} {I0 : zq_I} (hM : zr_lay r sh P) {v2 : Option Value} (hrow : row < 22) (K U : Nat → Nat) : ∀ (c : Nat) (q : List Nat) (n : Nat) (S : Nat → Nat → Nat) (v5 v6 : Option Value), zr_bd S → (∀ m, m < 16 → S 1 (row * 16 + m) = K m) → (∀ m, m < 16 → S 2 (row * 16 + m) = U m) →
    (q.map (fun m => 2 * zr_sz m - 1)).sum ≤ c → (∀ m ∈ q, 1 ≤ m ∧ m < 16) → (q.map zr_sz).sum ≤ 8 → n + (q.flatMap (zr_re K U)).length ≤ 16 → (∀ j, j < q.length → S 18 j = q.getD (q.length - 1 - j) 0) →
    ∃ S', zq_F d 90 12 [some (.ref r), some (.int (nI row)), v2, some (.int (nI n)), some (.int (nI q.length)), v5, v6] [] sh (zi r S I0) P nx kx = some (some (.int (nI (n + (q.flatMap (zr_re K U)).length))), sh, zi r S' I0, P, nx, kx) ∧ (∀ k j, k ≠ 17 → k ≠ 18 → S' k j = S k j) ∧ (∀ j, j < n → S' 17 j = S 17 j) ∧ (∀ j v, (q.flatMap (zr_re K U))[j]? = some v → S' 17 (n + j) = v) ∧ zr_bd S'
  | c, [], n, S, v5, v6, hS, hK, hU, h1, h2, h3, h4, h5 => by
    refine ⟨S, ?_, fun _ _ _ _ => rfl, fun _ _ => rfl, fun j v h => by simp at h, hS⟩
    rw [q_M_resolve_12]
    simp (disch := first | assumption | omega | exact Nat.le_of_ble_eq_true rfl) only [q_M_resolve_0, q_M_resolve_1, q_M_resolve_2, q_M_resolve_3, q_M_resolve_5, q_M_resolve_5n, q_M_resolve_6, q_M_resolve_9, q_M_resolve_10, q_M_resolve_11, q_M_resolve_14, q_M_resolve_17, q_M_resolve_20, q_M_resolve_20n, q_M_resolve_21, q_M_resolve_24, q_M_resolve_26, q_M_resolve_27, q_M_resolve_29, q_M_resolve_29n, q_M_resolve_30, q_M_resolve_33, q_M_resolve_34, q_M_resolve_36, q_M_resolve_37, q_M_resolve_39, q_M_resolve_40, q_M_resolve_41, q_M_resolve_44, q_M_resolve_44n, q_M_resolve_45, q_M_resolve_48, q_M_resolve_49, q_M_resolve_51, q_M_resolve_52, q_M_resolve_55, q_M_resolve_56, q_M_resolve_60, q_M_resolve_62, q_M_resolve_65, q_M_resolve_65n, q_M_resolve_66, q_M_resolve_69, q_M_resolve_70, q_M_resolve_72, q_M_resolve_73, q_M_resolve_75, q_M_resolve_76, q_M_resolve_77, q_M_resolve_79, q_M_resolve_80, q_M_resolve_81, q_M_resolve_82, q_M_resolve_85, q_M_resolve_88, q_M_resolve_88n, q_M_resolve_89, q_M_resolve_92, q_M_resolve_93, q_M_resolve_95, q_M_resolve_97, q_M_resolve_98, q_M_resolve_99, q_M_resolve_102, q_M_resolve_105, q_M_resolve_108, q_M_resolve_111, q_M_resolve_113, q_M_resolve_115, q_M_resolve_118, q_M_resolve_118n, q_M_resolve_119, q_M_resolve_122, q_M_resolve_124, q_M_resolve_125, q_M_resolve_127, q_M_resolve_128, q_M_resolve_129, q_M_resolve_130, q_M_resolve_131, q_M_resolve_131n, q_M_resolve_132, q_M_resolve_135, q_M_resolve_137, q_M_resolve_138, q_M_resolve_139, q_M_resolve_140, q_M_resolve_142, q_M_resolve_143, q_M_resolve_144, q_M_resolve_147, q_M_resolve_150, q_M_resolve_151, Option.bind_some, Option.toList_some, Option.toList_none, List.cons_append, List.nil_append, zq_rf_some, zq_rf_none, ↓reduceIte, zq_lt, zq_le, zq_eq, nI_add, zq_up_s, zq_up_o, zq_up_k, zq_b_eq0, Nat.reduceEqDiff, Nat.reduceLeDiff, Nat.reduceLT, Nat.reduceAdd, not_true_eq_false, not_false_eq_true, Nat.not_lt_zero, zq_on_lt, zq_os, false_or, or_false, or_self, List.length_nil, List.flatMap_nil, Nat.add_zero, Nat.le_refl]
  | 0, m :: q, n, S, v5, v6, hS, hK, hU, h1, h2, h3, h4, h5 => by
    have := zr_sz_p m
    simp only [List.map_cons, List.sum_cons] at h1
    omega
  | c + 1, m :: q, n, S, v5, v6, hS, hK, hU, h1, h2, h3, h4, h5 => by
    have hm := h2 m List.mem_cons_self
    have hq : ∀ x ∈ q, 1 ≤ x ∧ x < 16 := fun x hx => h2 x (List.mem_cons_of_mem _ hx)
    have hsz := zr_sz_p m
    have hlen : q.length ≤ (q.map zr_sz).sum := by
      clear h1 h2 h3 h4 h5 hq
      induction q with
      | nil => exact Nat.le_refl 0
      | cons x q ih =>
        have := zr_sz_p x
        simp only [List.map_cons, List.sum_cons, List.length_cons]
        omega
    simp only [List.map_cons, List.sum_cons] at h1 h3
    have hl7 : q.length ≤ 7 := by omega
    have htop : S 18 q.length = m := by
      have := h5 q.length (by simp)
      simpa using this
    have hrest : ∀ j, j < q.length → S 18 j = q.getD (q.length - 1 - j) 0 := by
      intro j hj
      rw [h5 j (by simp; omega), List.length_cons, show q.length + 1 - 1 - j = (q.length - 1 - j) + 1 by omega, List.getD_cons_succ]
    have b1 := hS.lt 1 (row * 16 + m)
    have eK := hK m hm.2
    have eU := hU m hm.2
    have hg : ¬ q.length + 1 ≤ 0 := by omega
    simp only [List.flatMap_cons] at h4 ⊢
    by_cases c1 : K m = 0
    · by_cases c2 : m < 8
      · have hb := zr_re_b (K := K) (U := U) c1 hm.1 c2
        have hs := zr_sz_b hm.1 c2
        have p1 := zr_sz_p (2 * m)
        have p2 := zr_sz_p (2 * m + 1)
        have hfm : ((2 * m) :: (2 * m + 1) :: q).flatMap (zr_re K U) = zr_re K U m ++ q.flatMap (zr_re K U) := by
          simp only [List.flatMap_cons, hb, List.append_assoc]
        obtain ⟨S', g1, g2, g3, g4, g5⟩ := m_M_resolve_out (d := d) (nx := nx) (kx := kx) (I0 := I0) (v2 := v2) hM hrow K U c ((2 * m) :: (2 * m + 1) :: q) n (zq_up (zq_up S 18 q.length (2 * m + 1)) 18 (q.length + 1) (2 * m)) (some (.int (nI m))) v6
          ((hS.up (by omega)).up (by omega)) (fun x hx => by rw [zq_up_o (by decide), zq_up_o (by decide)]; exact hK x hx) (fun x hx => by rw [zq_up_o (by decide), zq_up_o (by decide)]; exact hU x hx)
          (by simp only [List.map_cons, List.sum_cons]; omega)
          (fun x hx => by
            rcases List.mem_cons.mp hx with rfl | hx
            · omega
            · rcases List.mem_cons.mp hx with rfl | hx
              · omega
              · exact hq x hx)
          (by simp only [List.map_cons, List.sum_cons]; omega) (by rw [hfm]; exact h4)
          (fun j hj => by
            simp only [List.length_cons] at hj ⊢
            by_cases hj1 : j = q.length + 1
            · subst hj1
              rw [zq_up_s, show q.length + 1 + 1 - 1 - (q.length + 1) = 0 by omega]
              rfl
            · rw [zq_up_k hj1]
              by_cases hj2 : j = q.length
              · subst hj2
                rw [zq_up_s, show q.length + 1 + 1 - 1 - q.length = 1 by omega]
                rfl
              · rw [zq_up_k hj2, hrest j (by omega), show q.length + 1 + 1 - 1 - j = (q.length - 1 - j) + 1 + 1 by omega, List.getD_cons_succ, List.getD_cons_succ])
        rw [hfm] at g1 g4
        refine ⟨S', ?_, fun k j hk1 hk2 => by rw [g2 k j hk1 hk2, zq_up_o hk2, zq_up_o hk2], fun j hj => by rw [g3 j hj, zq_up_o (by decide), zq_up_o (by decide)], g4, g5⟩
        simp only [List.length_cons] at g1
        obtain ⟨s0, t1, n1, t2, n2, t3, n3, t4, n4, t5, n5, t6, n6, t7, n7, t8, n8, t9, n9, t10, n10, t11, n11, t12, n12, t13, n13, t14, n14, t15, n15, t16, n16, t17, n17, t18, n18, p1, p2, p3, p4, p5, p6, p7, p8, p9, p10, p11, p12, p13, p14, p15, p16, p17, p18⟩ := id hM
        have h8 : ¬ 8 ≤ m := by omega
        rw [q_M_resolve_12]
        simp (disch := first | assumption | omega | exact Nat.le_of_ble_eq_true rfl) only [q_M_resolve_0, q_M_resolve_1, q_M_resolve_2, q_M_resolve_3, q_M_resolve_5, q_M_resolve_5n, q_M_resolve_6, q_M_resolve_9, q_M_resolve_10, q_M_resolve_11, q_M_resolve_14, q_M_resolve_17, q_M_resolve_20, q_M_resolve_20n, q_M_resolve_21, q_M_resolve_24, q_M_resolve_26, q_M_resolve_27, q_M_resolve_29, q_M_resolve_29n, q_M_resolve_30, q_M_resolve_33, q_M_resolve_34, q_M_resolve_36, q_M_resolve_37, q_M_resolve_39, q_M_resolve_40, q_M_resolve_41, q_M_resolve_44, q_M_resolve_44n, q_M_resolve_45, q_M_resolve_48, q_M_resolve_49, q_M_resolve_51, q_M_resolve_52, q_M_resolve_55, q_M_resolve_56, q_M_resolve_60, q_M_resolve_62, q_M_resolve_65, q_M_resolve_65n, q_M_resolve_66, q_M_resolve_69, q_M_resolve_70, q_M_resolve_72, q_M_resolve_73, q_M_resolve_75, q_M_resolve_76, q_M_resolve_77, q_M_resolve_79, q_M_resolve_80, q_M_resolve_81, q_M_resolve_82, q_M_resolve_85, q_M_resolve_88, q_M_resolve_88n, q_M_resolve_89, q_M_resolve_92, q_M_resolve_93, q_M_resolve_95, q_M_resolve_97, q_M_resolve_98, q_M_resolve_99, q_M_resolve_102, q_M_resolve_105, q_M_resolve_108, q_M_resolve_111, q_M_resolve_113, q_M_resolve_115, q_M_resolve_118, q_M_resolve_118n, q_M_resolve_119, q_M_resolve_122, q_M_resolve_124, q_M_resolve_125, q_M_resolve_127, q_M_resolve_128, q_M_resolve_129, q_M_resolve_130, q_M_resolve_131, q_M_resolve_131n, q_M_resolve_132, q_M_resolve_135, q_M_resolve_137, q_M_resolve_138, q_M_resolve_139, q_M_resolve_140, q_M_resolve_142, q_M_resolve_143, q_M_resolve_144, q_M_resolve_147, q_M_resolve_150, q_M_resolve_151, Option.bind_some, Option.toList_some, Option.toList_none, List.cons_append, List.nil_append, zq_rf_some, zq_rf_none, ↓reduceIte, zq_lt, zq_le, zq_eq, nI_add, zq_up_s, zq_up_o, zq_up_k, zq_b_eq0, Nat.reduceEqDiff, Nat.reduceLeDiff, Nat.reduceLT, Nat.reduceAdd, not_true_eq_false, not_false_eq_true, Nat.not_lt_zero, zq_on_lt, zq_os, false_or, or_false, or_self, p1, p2, p3, p4, p5, p6, p7, p8, p9, p10, p11, p12, p13, p14, p15, p16, p17, p18, zi_1, zi_2, zi_3, zi_4, zi_5, zi_6, zi_7, zi_8, zi_9, zi_10, zi_11, zi_12, zi_14, zi_15, zi_16, zi_17, zi_18, zi_f0, zi_f1, zi_f11, zi_f15, zi_u1, zi_u2, zi_u3, zi_u4, zi_u5, zi_u6, zi_u7, zi_u8, zi_u9, zi_u10, zi_u11, zi_u12, zi_u14, zi_u15, zi_u16, zi_u17, zi_u18, zi_v0, zi_v1, zi_v11, zi_v15, List.length_cons, hg, pk_m1, htop, eK, c1, h8, pk_mul, g1]
      · have hb := zr_re_l (K := K) (U := U) c1 (by omega)
        rw [hb, List.nil_append] at h4 ⊢
        obtain ⟨S', g1, g2, g3, g4, g5⟩ := m_M_resolve_out (d := d) (nx := nx) (kx := kx) (I0 := I0) (v2 := v2) hM hrow K U c q n S (some (.int (nI m))) v6 hS hK hU (by omega) hq (by omega) h4 hrest
        refine ⟨S', ?_, g2, g3, g4, g5⟩
        obtain ⟨s0, t1, n1, t2, n2, t3, n3, t4, n4, t5, n5, t6, n6, t7, n7, t8, n8, t9, n9, t10, n10, t11, n11, t12, n12, t13, n13, t14, n14, t15, n15, t16, n16, t17, n17, t18, n18, p1, p2, p3, p4, p5, p6, p7, p8, p9, p10, p11, p12, p13, p14, p15, p16, p17, p18⟩ := id hM
        have h8 : 8 ≤ m := by omega
        rw [q_M_resolve_12]
        simp (disch := first | assumption | omega | exact Nat.le_of_ble_eq_true rfl) only [q_M_resolve_0, q_M_resolve_1, q_M_resolve_2, q_M_resolve_3, q_M_resolve_5, q_M_resolve_5n, q_M_resolve_6, q_M_resolve_9, q_M_resolve_10, q_M_resolve_11, q_M_resolve_14, q_M_resolve_17, q_M_resolve_20, q_M_resolve_20n, q_M_resolve_21, q_M_resolve_24, q_M_resolve_26, q_M_resolve_27, q_M_resolve_29, q_M_resolve_29n, q_M_resolve_30, q_M_resolve_33, q_M_resolve_34, q_M_resolve_36, q_M_resolve_37, q_M_resolve_39, q_M_resolve_40, q_M_resolve_41, q_M_resolve_44, q_M_resolve_44n, q_M_resolve_45, q_M_resolve_48, q_M_resolve_49, q_M_resolve_51, q_M_resolve_52, q_M_resolve_55, q_M_resolve_56, q_M_resolve_60, q_M_resolve_62, q_M_resolve_65, q_M_resolve_65n, q_M_resolve_66, q_M_resolve_69, q_M_resolve_70, q_M_resolve_72, q_M_resolve_73, q_M_resolve_75, q_M_resolve_76, q_M_resolve_77, q_M_resolve_79, q_M_resolve_80, q_M_resolve_81, q_M_resolve_82, q_M_resolve_85, q_M_resolve_88, q_M_resolve_88n, q_M_resolve_89, q_M_resolve_92, q_M_resolve_93, q_M_resolve_95, q_M_resolve_97, q_M_resolve_98, q_M_resolve_99, q_M_resolve_102, q_M_resolve_105, q_M_resolve_108, q_M_resolve_111, q_M_resolve_113, q_M_resolve_115, q_M_resolve_118, q_M_resolve_118n, q_M_resolve_119, q_M_resolve_122, q_M_resolve_124, q_M_resolve_125, q_M_resolve_127, q_M_resolve_128, q_M_resolve_129, q_M_resolve_130, q_M_resolve_131, q_M_resolve_131n, q_M_resolve_132, q_M_resolve_135, q_M_resolve_137, q_M_resolve_138, q_M_resolve_139, q_M_resolve_140, q_M_resolve_142, q_M_resolve_143, q_M_resolve_144, q_M_resolve_147, q_M_resolve_150, q_M_resolve_151, Option.bind_some, Option.toList_some, Option.toList_none, List.cons_append, List.nil_append, zq_rf_some, zq_rf_none, ↓reduceIte, zq_lt, zq_le, zq_eq, nI_add, zq_up_s, zq_up_o, zq_up_k, zq_b_eq0, Nat.reduceEqDiff, Nat.reduceLeDiff, Nat.reduceLT, Nat.reduceAdd, not_true_eq_false, not_false_eq_true, Nat.not_lt_zero, zq_on_lt, zq_os, false_or, or_false, or_self, p1, p2, p3, p4, p5, p6, p7, p8, p9, p10, p11, p12, p13, p14, p15, p16, p17, p18, zi_1, zi_2, zi_3, zi_4, zi_5, zi_6, zi_7, zi_8, zi_9, zi_10, zi_11, zi_12, zi_14, zi_15, zi_16, zi_17, zi_18, zi_f0, zi_f1, zi_f11, zi_f15, zi_u1, zi_u2, zi_u3, zi_u4, zi_u5, zi_u6, zi_u7, zi_u8, zi_u9, zi_u10, zi_u11, zi_u12, zi_u14, zi_u15, zi_u16, zi_u17, zi_u18, zi_v0, zi_v1, zi_v11, zi_v15, List.length_cons, hg, pk_m1, htop, eK, c1, h8, pk_mul, g1]
    · have hb := zr_re_k (K := K) (U := U) c1
      rw [hb] at h4 ⊢
      simp only [List.cons_append, List.length_cons, List.length_append] at h4 ⊢
      have o2 : zq_up S 17 n m 2 (row * 16 + m) = U m := by rw [zq_up_o (by decide)]; exact eU
      have hin := m_M_resolve_in (d := d) (nx := nx) (kx := kx) (dp := q.length) (I0 := I0) (v2 := v2) hM hrow hm.2 8 0 (n + 1) (zq_up S 17 n m) (hS.up (by omega)) rfl (by rw [o2]; omega)
      rw [o2] at hin
      have hbd : zr_bd (zr_wl (zq_up S 17 n m) (n + 1) (zr_ob (U m) 8 0)) := zr_wl_bd _ _ _ (hS.up (by omega)) (fun x hx => by have := zr_ob_lt 8 0 (by decide) x hx; omega)
      obtain ⟨S', g1, g2, g3, g4, g5⟩ := m_M_resolve_out (d := d) (nx := nx) (kx := kx) (I0 := I0) (v2 := v2) hM hrow K U c q (n + 1 + (zr_ob (U m) 8 0).length) (zr_wl (zq_up S 17 n m) (n + 1) (zr_ob (U m) 8 0)) (some (.int (nI m))) (some (.int (nI 8))) hbd
        (fun x hx => by rw [zr_wl_o (by decide), zq_up_o (by decide)]; exact hK x hx) (fun x hx => by rw [zr_wl_o (by decide), zq_up_o (by decide)]; exact hU x hx) (by omega) hq (by omega) (by omega) (fun j hj => by rw [zr_wl_o (by decide), zq_up_o (by decide)]; exact hrest j hj)
      refine ⟨S', ?_, fun k j hk1 hk2 => by rw [g2 k j hk1 hk2, zr_wl_o hk1, zq_up_o hk1], fun j hj => by rw [g3 j (by omega), zr_wl_lo _ _ _ (by omega), zq_up_k (by omega)], ?_, g5⟩
      · obtain ⟨s0, t1, n1, t2, n2, t3, n3, t4, n4, t5, n5, t6, n6, t7, n7, t8, n8, t9, n9, t10, n10, t11, n11, t12, n12, t13, n13, t14, n14, t15, n15, t16, n16, t17, n17, t18, n18, p1, p2, p3, p4, p5, p6, p7, p8, p9, p10, p11, p12, p13, p14, p15, p16, p17, p18⟩ := id hM
        rw [q_M_resolve_12]
        simp (disch := first | assumption | omega | exact Nat.le_of_ble_eq_true rfl) only [q_M_resolve_0, q_M_resolve_1, q_M_resolve_2, q_M_resolve_3, q_M_resolve_5, q_M_resolve_5n, q_M_resolve_6, q_M_resolve_9, q_M_resolve_10, q_M_resolve_11, q_M_resolve_14, q_M_resolve_17, q_M_resolve_20, q_M_resolve_20n, q_M_resolve_21, q_M_resolve_24, q_M_resolve_26, q_M_resolve_27, q_M_resolve_29, q_M_resolve_29n, q_M_resolve_30, q_M_resolve_33, q_M_resolve_34, q_M_resolve_36, q_M_resolve_37, q_M_resolve_39, q_M_resolve_40, q_M_resolve_41, q_M_resolve_44, q_M_resolve_44n, q_M_resolve_45, q_M_resolve_48, q_M_resolve_49, q_M_resolve_51, q_M_resolve_52, q_M_resolve_55, q_M_resolve_56, q_M_resolve_60, q_M_resolve_62, q_M_resolve_65, q_M_resolve_65n, q_M_resolve_66, q_M_resolve_69, q_M_resolve_70, q_M_resolve_72, q_M_resolve_73, q_M_resolve_75, q_M_resolve_76, q_M_resolve_77, q_M_resolve_79, q_M_resolve_80, q_M_resolve_81, q_M_resolve_82, q_M_resolve_85, q_M_resolve_88, q_M_resolve_88n, q_M_resolve_89, q_M_resolve_92, q_M_resolve_93, q_M_resolve_95, q_M_resolve_97, q_M_resolve_98, q_M_resolve_99, q_M_resolve_102, q_M_resolve_105, q_M_resolve_108, q_M_resolve_111, q_M_resolve_113, q_M_resolve_115, q_M_resolve_118, q_M_resolve_118n, q_M_resolve_119, q_M_resolve_122, q_M_resolve_124, q_M_resolve_125, q_M_resolve_127, q_M_resolve_128, q_M_resolve_129, q_M_resolve_130, q_M_resolve_131, q_M_resolve_131n, q_M_resolve_132, q_M_resolve_135, q_M_resolve_137, q_M_resolve_138, q_M_resolve_139, q_M_resolve_140, q_M_resolve_142, q_M_resolve_143, q_M_resolve_144, q_M_resolve_147, q_M_resolve_150, q_M_resolve_151, Option.bind_some, Option.toList_some, Option.toList_none, List.cons_append, List.nil_append, zq_rf_some, zq_rf_none, ↓reduceIte, zq_lt, zq_le, zq_eq, nI_add, zq_up_s, zq_up_o, zq_up_k, zq_b_eq0, Nat.reduceEqDiff, Nat.reduceLeDiff, Nat.reduceLT, Nat.reduceAdd, not_true_eq_false, not_false_eq_true, Nat.not_lt_zero, zq_on_lt, zq_os, false_or, or_false, or_self, p1, p2, p3, p4, p5, p6, p7, p8, p9, p10, p11, p12, p13, p14, p15, p16, p17, p18, zi_1, zi_2, zi_3, zi_4, zi_5, zi_6, zi_7, zi_8, zi_9, zi_10, zi_11, zi_12, zi_14, zi_15, zi_16, zi_17, zi_18, zi_f0, zi_f1, zi_f11, zi_f15, zi_u1, zi_u2, zi_u3, zi_u4, zi_u5, zi_u6, zi_u7, zi_u8, zi_u9, zi_u10, zi_u11, zi_u12, zi_u14, zi_u15, zi_u16, zi_u17, zi_u18, zi_v0, zi_v1, zi_v11, zi_v15, List.length_cons, hg, pk_m1, htop, eK, c1, pk_mul, hin, g1]
        rw [show n + 1 + (zr_ob (U m) 8 0).length + (q.flatMap (zr_re K U)).length = n + ((zr_ob (U m) 8 0).length + (q.flatMap (zr_re K U)).length + 1) by omega]
      · intro j v hv
        cases j with
        | zero =>
          simp at hv
          rw [g3 (n + 0) (by omega), zr_wl_lo _ _ _ (by omega), Nat.add_zero, zq_up_s, hv]
        | succ j =>
          rw [List.getElem?_cons_succ] at hv
          by_cases hj : j < (zr_ob (U m) 8 0).length
          · rw [List.getElem?_append_left hj] at hv
            rw [g3 (n + (j + 1)) (by omega), show n + (j + 1) = n + 1 + j by omega]
            exact zr_wl_at _ _ _ _ _ hv
          · rw [List.getElem?_append_right (by omega)] at hv
            have := g4 (j - (zr_ob (U m) 8 0).length) v hv
            rw [← this]
            congr 1
            omega
theorem m_M_resolve {d nx kx r row node : Nat} {sh : zq_S} {P : zq_P} {S : Nat → Nat → Nat} {I0 : zq_I} (hM : zr_lay r sh P) (hS : zr_bd S) (hrow : row < 22) (h1 : 1 ≤ node) (h2 : node < 16) (K U : Nat → Nat) (hK : ∀ m, m < 16 → S 1 (row * 16 + m) = K m) (hU : ∀ m, m < 16 → S 2 (row * 16 + m) = U m) (hl : (zr_re K U node).length ≤ 16) :
    ∃ S', zq_C d 90 [.ref r, .int (nI row), .int (nI node)] sh (zi r S I0) P nx kx = some (some (.int (nI (zr_re K U node).length)), sh, zi r S' I0, P, nx, kx) ∧ (∀ k j, k ≠ 17 → k ≠ 18 → S' k j = S k j) ∧ (∀ j v, (zr_re K U node)[j]? = some v → S' 17 j = v) ∧ zr_bd S' := by
  have e1 : ([node].flatMap (zr_re K U)) = zr_re K U node := by simp
  have hsz : 2 * zr_sz node - 1 ≤ 15 ∧ zr_sz node ≤ 8 := by
    unfold zr_sz
    split
    · decide
    · split
      · decide
      · split <;> decide
  obtain ⟨S', g1, g2, g3, g4, g5⟩ := m_M_resolve_out (d := d) (nx := nx) (kx := kx) (I0 := I0) (v2 := some (.int (nI node))) hM hrow K U 15 [node] 0 (zq_up S 18 0 node) none none (hS.up (by omega)) (fun x hx => by rw [zq_up_o (by decide)]; exact hK x hx) (fun x hx => by rw [zq_up_o (by decide)]; exact hU x hx) (by simp; omega) (fun x hx => by rw [List.mem_singleton.mp hx]; exact ⟨h1, h2⟩) (by simp; omega) (by rw [e1]; omega) (fun j hj => by
    have : j = 0 := by simpa using hj
    subst this
    rw [zq_up_s]
    rfl)
  rw [e1] at g1 g4
  simp only [Nat.zero_add] at g1 g4
  refine ⟨S', ?_, fun k j hk1 hk2 => by rw [g2 k j hk1 hk2, zq_up_o hk2], g4, g5⟩
  obtain ⟨s0, t1, n1, t2, n2, t3, n3, t4, n4, t5, n5, t6, n6, t7, n7, t8, n8, t9, n9, t10, n10, t11, n11, t12, n12, t13, n13, t14, n14, t15, n15, t16, n16, t17, n17, t18, n18, p1, p2, p3, p4, p5, p6, p7, p8, p9, p10, p11, p12, p13, p14, p15, p16, p17, p18⟩ := id hM
  simp only [List.length_singleton] at g1
  simp (disch := first | assumption | omega | exact Nat.le_of_ble_eq_true rfl) only [q_M_resolve, q_M_resolve_0, q_M_resolve_1, q_M_resolve_2, q_M_resolve_3, q_M_resolve_5, q_M_resolve_5n, q_M_resolve_6, q_M_resolve_9, q_M_resolve_10, q_M_resolve_11, q_M_resolve_14, q_M_resolve_17, q_M_resolve_20, q_M_resolve_20n, q_M_resolve_21, q_M_resolve_24, q_M_resolve_26, q_M_resolve_27, q_M_resolve_29, q_M_resolve_29n, q_M_resolve_30, q_M_resolve_33, q_M_resolve_34, q_M_resolve_36, q_M_resolve_37, q_M_resolve_39, q_M_resolve_40, q_M_resolve_41, q_M_resolve_44, q_M_resolve_44n, q_M_resolve_45, q_M_resolve_48, q_M_resolve_49, q_M_resolve_51, q_M_resolve_52, q_M_resolve_55, q_M_resolve_56, q_M_resolve_60, q_M_resolve_62, q_M_resolve_65, q_M_resolve_65n, q_M_resolve_66, q_M_resolve_69, q_M_resolve_70, q_M_resolve_72, q_M_resolve_73, q_M_resolve_75, q_M_resolve_76, q_M_resolve_77, q_M_resolve_79, q_M_resolve_80, q_M_resolve_81, q_M_resolve_82, q_M_resolve_85, q_M_resolve_88, q_M_resolve_88n, q_M_resolve_89, q_M_resolve_92, q_M_resolve_93, q_M_resolve_95, q_M_resolve_97, q_M_resolve_98, q_M_resolve_99, q_M_resolve_102, q_M_resolve_105, q_M_resolve_108, q_M_resolve_111, q_M_resolve_113, q_M_resolve_115, q_M_resolve_118, q_M_resolve_118n, q_M_resolve_119, q_M_resolve_122, q_M_resolve_124, q_M_resolve_125, q_M_resolve_127, q_M_resolve_128, q_M_resolve_129, q_M_resolve_130, q_M_resolve_131, q_M_resolve_131n, q_M_resolve_132, q_M_resolve_135, q_M_resolve_137, q_M_resolve_138, q_M_resolve_139, q_M_resolve_140, q_M_resolve_142, q_M_resolve_143, q_M_resolve_144, q_M_resolve_147, q_M_resolve_150, q_M_resolve_151, Option.bind_some, Option.toList_some, Option.toList_none, List.cons_append, List.nil_append, zq_rf_some, zq_rf_none, ↓reduceIte, zq_lt, zq_le, zq_eq, nI_add, zq_up_s, zq_up_o, zq_up_k, zq_b_eq0, Nat.reduceEqDiff, Nat.reduceLeDiff, Nat.reduceLT, Nat.reduceAdd, not_true_eq_false, not_false_eq_true, Nat.not_lt_zero, zq_on_lt, zq_os, false_or, or_false, or_self, p1, p2, p3, p4, p5, p6, p7, p8, p9, p10, p11, p12, p13, p14, p15, p16, p17, p18, zi_1, zi_2, zi_3, zi_4, zi_5, zi_6, zi_7, zi_8, zi_9, zi_10, zi_11, zi_12, zi_14, zi_15, zi_16, zi_17, zi_18, zi_f0, zi_f1, zi_f11, zi_f15, zi_u1, zi_u2, zi_u3, zi_u4, zi_u5, zi_u6, zi_u7, zi_u8, zi_u9, zi_u10, zi_u11, zi_u12, zi_u14, zi_u15, zi_u16, zi_u17, zi_u18, zi_v0, zi_v1, zi_v11, zi_v15, g1]
