/-! the reference: commit -/
def zr_me (a b : Nat) : Nat → Nat → Nat
  | 0, u => u
  | c + 1, u => if a / 2 ^ u = b / 2 ^ u then u else zr_me a b c (u + 1)
theorem zr_me_le (a b : Nat) : ∀ c u, zr_me a b c u ≤ u + c
  | 0, u => Nat.le_refl _
  | c + 1, u => by
    have := zr_me_le a b c (u + 1)
    unfold zr_me
    split <;> omega
theorem m_M_meeting_go {d nx kx r a b : Nat} {sh : zq_S} {P : zq_P} {I : zq_I} (ha : a < 16) (hb : b < 16) : ∀ (c u : Nat), u + c = 4 → zq_F d 94 2 [some (.ref r), some (.int (nI a)), some (.int (nI b)), some (.int (nI u))] [] sh I P nx kx = some (some (.int (nI (zr_me a b c u))), sh, I, P, nx, kx)
  | 0, u, h => by
    have h4 : u = 4 := by omega
    subst h4
    have e1 : a / 2 ^ 4 = b / 2 ^ 4 := by omega
    have b1 : a / 2 ^ 4 < 2147483648 := by omega
    have b2 : b / 2 ^ 4 < 2147483648 := by omega
    rw [q_M_meeting_2]
    simp (disch := first | assumption | omega | exact Nat.le_of_ble_eq_true rfl) only [q_M_meeting_0, q_M_meeting_1, q_M_meeting_3, q_M_meeting_4, q_M_meeting_5, q_M_meeting_6, q_M_meeting_7, q_M_meeting_8, q_M_meeting_11, q_M_meeting_14, q_M_meeting_17, q_M_meeting_18, Option.bind_some, Option.toList_some, Option.toList_none, List.cons_append, List.nil_append, zq_rf_some, zq_rf_none, ↓reduceIte, zq_lt, zq_le, zq_eq, nI_add, zq_up_s, zq_up_o, zq_up_k, zq_b_eq0, Nat.reduceEqDiff, Nat.reduceLeDiff, Nat.reduceLT, Nat.reduceAdd, not_true_eq_false, not_false_eq_true, Nat.not_lt_zero, zq_on_lt, zq_os, false_or, or_false, or_self, Bool.false_eq_true, zq_shr, e1, zr_me]
  | c + 1, u, h => by
    have b1 : a / 2 ^ u < 2147483648 := Nat.lt_of_le_of_lt (Nat.div_le_self _ _) (by omega)
    have b2 : b / 2 ^ u < 2147483648 := Nat.lt_of_le_of_lt (Nat.div_le_self _ _) (by omega)
    have ih := m_M_meeting_go (d := d) (nx := nx) (kx := kx) (r := r) (sh := sh) (P := P) (I := I) ha hb c (u + 1) (by omega)
    by_cases e1 : a / 2 ^ u = b / 2 ^ u
    · rw [q_M_meeting_2]
      simp (disch := first | assumption | omega | exact Nat.le_of_ble_eq_true rfl) only [q_M_meeting_0, q_M_meeting_1, q_M_meeting_3, q_M_meeting_4, q_M_meeting_5, q_M_meeting_6, q_M_meeting_7, q_M_meeting_8, q_M_meeting_11, q_M_meeting_14, q_M_meeting_17, q_M_meeting_18, Option.bind_some, Option.toList_some, Option.toList_none, List.cons_append, List.nil_append, zq_rf_some, zq_rf_none, ↓reduceIte, zq_lt, zq_le, zq_eq, nI_add, zq_up_s, zq_up_o, zq_up_k, zq_b_eq0, Nat.reduceEqDiff, Nat.reduceLeDiff, Nat.reduceLT, Nat.reduceAdd, not_true_eq_false, not_false_eq_true, Nat.not_lt_zero, zq_on_lt, zq_os, false_or, or_false, or_self, Bool.false_eq_true, zq_shr, e1, zr_me]
    · rw [q_M_meeting_2]
      simp (disch := first | assumption | omega | exact Nat.le_of_ble_eq_true rfl) only [q_M_meeting_0, q_M_meeting_1, q_M_meeting_3, q_M_meeting_4, q_M_meeting_5, q_M_meeting_6, q_M_meeting_7, q_M_meeting_8, q_M_meeting_11, q_M_meeting_14, q_M_meeting_17, q_M_meeting_18, Option.bind_some, Option.toList_some, Option.toList_none, List.cons_append, List.nil_append, zq_rf_some, zq_rf_none, ↓reduceIte, zq_lt, zq_le, zq_eq, nI_add, zq_up_s, zq_up_o, zq_up_k, zq_b_eq0, Nat.reduceEqDiff, Nat.reduceLeDiff, Nat.reduceLT, Nat.reduceAdd, not_true_eq_false, not_false_eq_true, Nat.not_lt_zero, zq_on_lt, zq_os, false_or, or_false, or_self, Bool.false_eq_true, zq_shr, e1, zr_me, ih]
theorem m_M_meeting {d nx kx r a b : Nat} {sh : zq_S} {P : zq_P} {I : zq_I} (ha : a < 16) (hb : b < 16) : zq_C d 94 [.ref r, .int (nI a), .int (nI b)] sh I P nx kx = some (some (.int (nI (zr_me a b 3 1))), sh, I, P, nx, kx) := by
  have h := m_M_meeting_go (d := d) (nx := nx) (kx := kx) (r := r) (sh := sh) (P := P) (I := I) ha hb 3 1 rfl
  simp (disch := first | assumption | omega | exact Nat.le_of_ble_eq_true rfl) only [q_M_meeting, q_M_meeting_0, q_M_meeting_1, q_M_meeting_3, q_M_meeting_4, q_M_meeting_5, q_M_meeting_6, q_M_meeting_7, q_M_meeting_8, q_M_meeting_11, q_M_meeting_14, q_M_meeting_17, q_M_meeting_18, h]
def zr_wel (kd wh lf ow : Nat → Nat) (km mine e : Nat) : Nat → Nat → List (Nat × Nat)
  | 0, _ => []
  | c + 1, i => (if kd i = 2 then [(km + 1 + zr_me mine (8 + lf (wh i)) 3 1, ow (wh i)), (1000 + e, ow (wh i))] else []) ++ zr_wel kd wh lf ow km mine e c (i + 1)
theorem zr_wel_len {kd wh lf ow : Nat → Nat} {km mine e : Nat} : ∀ (c i : Nat), (zr_wel kd wh lf ow km mine e c i).length ≤ 2 * c
  | 0, i => Nat.le_refl _
  | c + 1, i => by
    have := zr_wel_len (kd := kd) (wh := wh) (lf := lf) (ow := ow) (km := km) (mine := mine) (e := e) c (i + 1)
    unfold zr_wel
    rw [List.length_append]
    split <;> simp <;> omega
theorem m_M_commit_g1 {d nx kx r mine e km np : Nat} {sh : zq_S} {P : zq_P} {I0 : zq_I} (hM : zr_lay r sh P) {v1 v3 : Option Value} (kd wh lf ow : Nat → Nat) (hmi : mine < 16) (hkm : km < 900) (he : e < 21) (hwh : ∀ i, wh i < 10) (hlf : ∀ p, lf p < 8) (hnp : np ≤ 32) : ∀ (c i : Nat) (S : Nat → Nat → Nat), zr_bd S → (∀ j, S 10 j = kd j) → (∀ j, S 11 j = wh j) → (∀ j, S 9 j = lf j) → (∀ j, S 7 j = ow j) → S 0 1 = km → S 0 11 = np → i + c = np → S 0 15 + 2 * c ≤ 640 →
    zq_F (d + 1) 95 118 [some (.ref r), v1, some (.int (nI e)), v3, some (.int (nI mine)), some (.int (nI i))] [] sh (zi r S I0) P nx kx = zq_F (d + 1) 95 213 [some (.ref r), v1, some (.int (nI e)), v3, some (.int (nI mine)), some (.int (nI mine))] [] sh (zi r (zr_sm S (zr_wel kd wh lf ow km mine e c i)) I0) P nx kx
  | 0, i, S, hS, h10, h11, h9, h7, h01, hn, h, hm => by
    have s0 := hM.1
    have h1 : np ≤ i := by omega
    rw [q_M_commit_118]
    simp (disch := first | assumption | omega | exact Nat.le_of_ble_eq_true rfl) only [q_M_commit_120, q_M_commit_120n, q_M_commit_121, q_M_commit_124, q_M_commit_127, q_M_commit_127n, q_M_commit_128, q_M_commit_131, q_M_commit_133, q_M_commit_134, q_M_commit_135, q_M_commit_138, q_M_commit_141, q_M_commit_141n, q_M_commit_142, q_M_commit_142n, q_M_commit_143, q_M_commit_146, q_M_commit_147, q_M_commit_148, q_M_commit_148n, q_M_commit_149, q_M_commit_151, q_M_commit_153, q_M_commit_153n, q_M_commit_154, q_M_commit_157, q_M_commit_157n, q_M_commit_158, q_M_commit_161, q_M_commit_163, q_M_commit_164, q_M_commit_165, q_M_commit_166, q_M_commit_169, q_M_commit_170, q_M_commit_170n, q_M_commit_171, q_M_commit_174, q_M_commit_174n, q_M_commit_175, q_M_commit_178, q_M_commit_180, q_M_commit_181, q_M_commit_182, q_M_commit_185, q_M_commit_185n, q_M_commit_186, q_M_commit_187, q_M_commit_188, q_M_commit_188n, q_M_commit_189, q_M_commit_192, q_M_commit_192n, q_M_commit_193, q_M_commit_196, q_M_commit_198, q_M_commit_199, q_M_commit_200, q_M_commit_203, q_M_commit_206, q_M_commit_209, q_M_commit_211, Option.bind_some, Option.toList_some, Option.toList_none, List.cons_append, List.nil_append, zq_rf_some, zq_rf_none, ↓reduceIte, zq_lt, zq_le, zq_eq, nI_add, zq_up_s, zq_up_o, zq_up_k, zq_b_eq0, Nat.reduceEqDiff, Nat.reduceLeDiff, Nat.reduceLT, Nat.reduceAdd, not_true_eq_false, not_false_eq_true, Nat.not_lt_zero, zq_on_lt, zq_os, false_or, or_false, or_self, Bool.false_eq_true, zi_1, zi_2, zi_3, zi_4, zi_5, zi_6, zi_7, zi_8, zi_9, zi_10, zi_11, zi_12, zi_14, zi_15, zi_16, zi_17, zi_18, zi_f0, zi_f1, zi_f11, zi_f15, zi_u1, zi_u2, zi_u3, zi_u4, zi_u5, zi_u6, zi_u7, zi_u8, zi_u9, zi_u10, zi_u11, zi_u12, zi_u14, zi_u15, zi_u16, zi_u17, zi_u18, zi_v0, zi_v1, zi_v11, zi_v15, hn, h1, zr_wel, zr_sm]
  | c + 1, i, S, hS, h10, h11, h9, h7, h01, hn, h, hm => by
    have h1 : ¬ np ≤ i := by omega
    have b1 : kd i < 2147483648 := by rw [← h10]; exact hS.lt _ _
    have w1 := hwh i
    have l1 := hlf (wh i)
    have ow1 : ow (wh i) < 65536 := by rw [← h7]; exact hS _ _
    by_cases c1 : kd i = 2
    · have ml := zr_me_le mine (8 + lf (wh i)) 3 1
      have me := m_M_meeting (d := d) (nx := nx) (kx := kx) (r := r) (sh := sh) (P := P) (I := zi r S I0) hmi (show 8 + lf (wh i) < 16 by omega)
      have s1 := m_M_send (d := d) (nx := nx) (kx := kx) (I0 := I0) (S := S) (u := ow (wh i)) hM (w := km + 1 + zr_me mine (8 + lf (wh i)) 3 1) (by omega) (by omega)
      have s2 := m_M_sendn (d := d) (nx := nx) (kx := kx) (I0 := I0) (S := zr_sd S (km + 1 + zr_me mine (8 + lf (wh i)) 3 1) (ow (wh i))) (u := ow (wh i)) hM (w := e) (by rw [zr_sd_n]; omega)
      have o : ∀ {S : Nat → Nat → Nat} {w u k j : Nat}, k ≠ 13 → k ≠ 14 → k ≠ 0 → zr_sd S w u k j = S k j := fun a b c => zr_sd_o a b (Or.inl c)
      have o0 : ∀ {S : Nat → Nat → Nat} {w u j : Nat}, j ≠ 15 → zr_sd S w u 0 j = S 0 j := fun a => zr_sd_o (by decide) (by decide) (Or.inr a)
      have ih := m_M_commit_g1 (d := d) (nx := nx) (kx := kx) (I0 := I0) (v1 := v1) (v3 := v3) hM kd wh lf ow hmi hkm he hwh hlf hnp c (i + 1) (zr_sd (zr_sd S (km + 1 + zr_me mine (8 + lf (wh i)) 3 1) (ow (wh i))) (1000 + e) (ow (wh i)))
        (by
          have q1 : zr_bd (zr_sd S (km + 1 + zr_me mine (8 + lf (wh i)) 3 1) (ow (wh i))) := ((hS.up (by omega)).up ow1).up (by omega)
          exact ((q1.up (by omega)).up ow1).up (by rw [zr_sd_n]; omega))
        (fun j => by rw [o (by decide) (by decide) (by decide), o (by decide) (by decide) (by decide)]; exact h10 j) (fun j => by rw [o (by decide) (by decide) (by decide), o (by decide) (by decide) (by decide)]; exact h11 j) (fun j => by rw [o (by decide) (by decide) (by decide), o (by decide) (by decide) (by decide)]; exact h9 j) (fun j => by rw [o (by decide) (by decide) (by decide), o (by decide) (by decide) (by decide)]; exact h7 j)
        (by rw [o0 (by decide), o0 (by decide)]; exact h01) (by rw [o0 (by decide), o0 (by decide)]; exact hn) (by omega) (by rw [zr_sd_n, zr_sd_n]; omega)
      have e1 : zr_wel kd wh lf ow km mine e (c + 1) i = (km + 1 + zr_me mine (8 + lf (wh i)) 3 1, ow (wh i)) :: (1000 + e, ow (wh i)) :: zr_wel kd wh lf ow km mine e c (i + 1) := by
        conv => lhs; unfold zr_wel
        rw [if_pos c1]
        rfl
      rw [e1]
      have z7 : ∀ j, zr_sd S (km + 1 + zr_me mine (8 + lf (wh i)) 3 1) (ow (wh i)) 7 j = ow j := fun j => by rw [o (by decide) (by decide) (by decide)]; exact h7 j
      have z11 : ∀ j, zr_sd S (km + 1 + zr_me mine (8 + lf (wh i)) 3 1) (ow (wh i)) 11 j = wh j := fun j => by rw [o (by decide) (by decide) (by decide)]; exact h11 j
      obtain ⟨s0, t1, n1, t2, n2, t3, n3, t4, n4, t5, n5, t6, n6, t7, n7, t8, n8, t9, n9, t10, n10, t11, n11, t12, n12, t13, n13, t14, n14, t15, n15, t16, n16, t17, n17, t18, n18, p1, p2, p3, p4, p5, p6, p7, p8, p9, p10, p11, p12, p13, p14, p15, p16, p17, p18⟩ := id hM
      rw [q_M_commit_118]
      simp (disch := first | assumption | omega | exact Nat.le_of_ble_eq_true rfl) only [q_M_commit_120, q_M_commit_120n, q_M_commit_121, q_M_commit_124, q_M_commit_127, q_M_commit_127n, q_M_commit_128, q_M_commit_131, q_M_commit_133, q_M_commit_134, q_M_commit_135, q_M_commit_138, q_M_commit_141, q_M_commit_141n, q_M_commit_142, q_M_commit_142n, q_M_commit_143, q_M_commit_146, q_M_commit_147, q_M_commit_148, q_M_commit_148n, q_M_commit_149, q_M_commit_151, q_M_commit_153, q_M_commit_153n, q_M_commit_154, q_M_commit_157, q_M_commit_157n, q_M_commit_158, q_M_commit_161, q_M_commit_163, q_M_commit_164, q_M_commit_165, q_M_commit_166, q_M_commit_169, q_M_commit_170, q_M_commit_170n, q_M_commit_171, q_M_commit_174, q_M_commit_174n, q_M_commit_175, q_M_commit_178, q_M_commit_180, q_M_commit_181, q_M_commit_182, q_M_commit_185, q_M_commit_185n, q_M_commit_186, q_M_commit_187, q_M_commit_188, q_M_commit_188n, q_M_commit_189, q_M_commit_192, q_M_commit_192n, q_M_commit_193, q_M_commit_196, q_M_commit_198, q_M_commit_199, q_M_commit_200, q_M_commit_203, q_M_commit_206, q_M_commit_209, q_M_commit_211, Option.bind_some, Option.toList_some, Option.toList_none, List.cons_append, List.nil_append, zq_rf_some, zq_rf_none, ↓reduceIte, zq_lt, zq_le, zq_eq, nI_add, zq_up_s, zq_up_o, zq_up_k, zq_b_eq0, Nat.reduceEqDiff, Nat.reduceLeDiff, Nat.reduceLT, Nat.reduceAdd, not_true_eq_false, not_false_eq_true, Nat.not_lt_zero, zq_on_lt, zq_os, false_or, or_false, or_self, Bool.false_eq_true, p1, p2, p3, p4, p5, p6, p7, p8, p9, p10, p11, p12, p13, p14, p15, p16, p17, p18, zi_1, zi_2, zi_3, zi_4, zi_5, zi_6, zi_7, zi_8, zi_9, zi_10, zi_11, zi_12, zi_14, zi_15, zi_16, zi_17, zi_18, zi_f0, zi_f1, zi_f11, zi_f15, zi_u1, zi_u2, zi_u3, zi_u4, zi_u5, zi_u6, zi_u7, zi_u8, zi_u9, zi_u10, zi_u11, zi_u12, zi_u14, zi_u15, zi_u16, zi_u17, zi_u18, zi_v0, zi_v1, zi_v11, zi_v15, hn, h1, h10, h11, h9, h7, h01, c1, me, s1, s2, z7, z11, ih, zr_sm]
    · have ih := m_M_commit_g1 (d := d) (nx := nx) (kx := kx) (I0 := I0) (v1 := v1) (v3 := v3) hM kd wh lf ow hmi hkm he hwh hlf hnp c (i + 1) S hS h10 h11 h9 h7 h01 hn (by omega) (by omega)
      have e1 : zr_wel kd wh lf ow km mine e (c + 1) i = zr_wel kd wh lf ow km mine e c (i + 1) := by
        conv => lhs; unfold zr_wel
        rw [if_neg c1, List.nil_append]
      rw [e1]
      obtain ⟨s0, t1, n1, t2, n2, t3, n3, t4, n4, t5, n5, t6, n6, t7, n7, t8, n8, t9, n9, t10, n10, t11, n11, t12, n12, t13, n13, t14, n14, t15, n15, t16, n16, t17, n17, t18, n18, p1, p2, p3, p4, p5, p6, p7, p8, p9, p10, p11, p12, p13, p14, p15, p16, p17, p18⟩ := id hM
      rw [q_M_commit_118]
      simp (disch := first | assumption | omega | exact Nat.le_of_ble_eq_true rfl) only [q_M_commit_120, q_M_commit_120n, q_M_commit_121, q_M_commit_124, q_M_commit_127, q_M_commit_127n, q_M_commit_128, q_M_commit_131, q_M_commit_133, q_M_commit_134, q_M_commit_135, q_M_commit_138, q_M_commit_141, q_M_commit_141n, q_M_commit_142, q_M_commit_142n, q_M_commit_143, q_M_commit_146, q_M_commit_147, q_M_commit_148, q_M_commit_148n, q_M_commit_149, q_M_commit_151, q_M_commit_153, q_M_commit_153n, q_M_commit_154, q_M_commit_157, q_M_commit_157n, q_M_commit_158, q_M_commit_161, q_M_commit_163, q_M_commit_164, q_M_commit_165, q_M_commit_166, q_M_commit_169, q_M_commit_170, q_M_commit_170n, q_M_commit_171, q_M_commit_174, q_M_commit_174n, q_M_commit_175, q_M_commit_178, q_M_commit_180, q_M_commit_181, q_M_commit_182, q_M_commit_185, q_M_commit_185n, q_M_commit_186, q_M_commit_187, q_M_commit_188, q_M_commit_188n, q_M_commit_189, q_M_commit_192, q_M_commit_192n, q_M_commit_193, q_M_commit_196, q_M_commit_198, q_M_commit_199, q_M_commit_200, q_M_commit_203, q_M_commit_206, q_M_commit_209, q_M_commit_211, Option.bind_some, Option.toList_some, Option.toList_none, List.cons_append, List.nil_append, zq_rf_some, zq_rf_none, ↓reduceIte, zq_lt, zq_le, zq_eq, nI_add, zq_up_s, zq_up_o, zq_up_k, zq_b_eq0, Nat.reduceEqDiff, Nat.reduceLeDiff, Nat.reduceLT, Nat.reduceAdd, not_true_eq_false, not_false_eq_true, Nat.not_lt_zero, zq_on_lt, zq_os, false_or, or_false, or_self, Bool.false_eq_true, p1, p2, p3, p4, p5, p6, p7, p8, p9, p10, p11, p12, p13, p14, p15, p16, p17, p18, zi_1, zi_2, zi_3, zi_4, zi_5, zi_6, zi_7, zi_8, zi_9, zi_10, zi_11, zi_12, zi_14, zi_15, zi_16, zi_17, zi_18, zi_f0, zi_f1, zi_f11, zi_f15, zi_u1, zi_u2, zi_u3, zi_u4, zi_u5, zi_u6, zi_u7, zi_u8, zi_u9, zi_u10, zi_u11, zi_u12, zi_u14, zi_u15, zi_u16, zi_u17, zi_u18, zi_v0, zi_v1, zi_v11, zi_v15, hn, h1, h10, c1, ih]
def zr_pth : Nat → Nat → (Nat → Nat → Nat) → (Nat → Nat → Nat)
  | 0, _, S => S
  | c + 1, n, S => if n = 0 then S else zr_pth c (n / 2) (zq_up (zq_up (zq_up S 0 1 (S 0 1 + 1)) 1 (336 + n) (S 0 1 + 1)) 2 (336 + n) 0)
theorem m_M_commit_g2 {d nx kx r : Nat} {sh : zq_S} {P : zq_P} {I0 : zq_I} (hM : zr_lay r sh P) {v1 v2 v3 v4 : Option Value} : ∀ (c n : Nat) (S : Nat → Nat → Nat), n < 2 ^ c → n < 16 → zq_F d 95 213 [some (.ref r), v1, v2, v3, v4, some (.int (nI n))] [] sh (zi r S I0) P nx kx = zq_F d 95 267 [some (.ref r), v1, v2, v3, v4, some (.int (nI 0))] [] sh (zi r (zr_pth c n S) I0) P nx kx
  | 0, n, S, h, h2 => by
    have h3 : n = 0 := by omega
    subst h3
    rw [q_M_commit_213]
    simp (disch := first | assumption | omega | exact Nat.le_of_ble_eq_true rfl) only [q_M_commit_215, q_M_commit_218, q_M_commit_218n, q_M_commit_219, q_M_commit_219i, q_M_commit_220, q_M_commit_223, q_M_commit_224, q_M_commit_225, q_M_commit_228, q_M_commit_228n, q_M_commit_229, q_M_commit_232, q_M_commit_235, q_M_commit_237, q_M_commit_238, q_M_commit_238n, q_M_commit_239, q_M_commit_242, q_M_commit_243, q_M_commit_243n, q_M_commit_244, q_M_commit_247, q_M_commit_250, q_M_commit_252, q_M_commit_253, q_M_commit_254, q_M_commit_255, q_M_commit_257, q_M_commit_258, q_M_commit_259, q_M_commit_261, q_M_commit_264, q_M_commit_265, Option.bind_some, Option.toList_some, Option.toList_none, List.cons_append, List.nil_append, zq_rf_some, zq_rf_none, ↓reduceIte, zq_lt, zq_le, zq_eq, nI_add, zq_up_s, zq_up_o, zq_up_k, zq_b_eq0, Nat.reduceEqDiff, Nat.reduceLeDiff, Nat.reduceLT, Nat.reduceAdd, not_true_eq_false, not_false_eq_true, Nat.not_lt_zero, zq_on_lt, zq_os, false_or, or_false, or_self, Bool.false_eq_true, zr_pth, Nat.le_refl]
  | c + 1, n, S, h, h2 => by
    by_cases h3 : n = 0
    · subst h3
      rw [q_M_commit_213]
      simp (disch := first | assumption | omega | exact Nat.le_of_ble_eq_true rfl) only [q_M_commit_215, q_M_commit_218, q_M_commit_218n, q_M_commit_219, q_M_commit_219i, q_M_commit_220, q_M_commit_223, q_M_commit_224, q_M_commit_225, q_M_commit_228, q_M_commit_228n, q_M_commit_229, q_M_commit_232, q_M_commit_235, q_M_commit_237, q_M_commit_238, q_M_commit_238n, q_M_commit_239, q_M_commit_242, q_M_commit_243, q_M_commit_243n, q_M_commit_244, q_M_commit_247, q_M_commit_250, q_M_commit_252, q_M_commit_253, q_M_commit_254, q_M_commit_255, q_M_commit_257, q_M_commit_258, q_M_commit_259, q_M_commit_261, q_M_commit_264, q_M_commit_265, Option.bind_some, Option.toList_some, Option.toList_none, List.cons_append, List.nil_append, zq_rf_some, zq_rf_none, ↓reduceIte, zq_lt, zq_le, zq_eq, nI_add, zq_up_s, zq_up_o, zq_up_k, zq_b_eq0, Nat.reduceEqDiff, Nat.reduceLeDiff, Nat.reduceLT, Nat.reduceAdd, not_true_eq_false, not_false_eq_true, Nat.not_lt_zero, zq_on_lt, zq_os, false_or, or_false, or_self, Bool.false_eq_true, zr_pth, Nat.le_refl]
    · have ih := m_M_commit_g2 (d := d) (nx := nx) (kx := kx) (I0 := I0) (v1 := v1) (v2 := v2) (v3 := v3) (v4 := v4) hM c (n / 2) (zq_up (zq_up (zq_up S 0 1 (S 0 1 + 1)) 1 (336 + n) (S 0 1 + 1)) 2 (336 + n) 0) (by rw [Nat.pow_succ] at h; omega) (by omega)
      obtain ⟨s0, t1, n1, t2, n2, t3, n3, t4, n4, t5, n5, t6, n6, t7, n7, t8, n8, t9, n9, t10, n10, t11, n11, t12, n12, t13, n13, t14, n14, t15, n15, t16, n16, t17, n17, t18, n18, p1, p2, p3, p4, p5, p6, p7, p8, p9, p10, p11, p12, p13, p14, p15, p16, p17, p18⟩ := id hM
      have h4 : ¬ n ≤ 0 := by omega
      have h20 := zq_20
      rw [q_M_commit_213]
      simp (disch := first | assumption | omega | exact Nat.le_of_ble_eq_true rfl) only [q_M_commit_215, q_M_commit_218, q_M_commit_218n, q_M_commit_219, q_M_commit_219i, q_M_commit_220, q_M_commit_223, q_M_commit_224, q_M_commit_225, q_M_commit_228, q_M_commit_228n, q_M_commit_229, q_M_commit_232, q_M_commit_235, q_M_commit_237, q_M_commit_238, q_M_commit_238n, q_M_commit_239, q_M_commit_242, q_M_commit_243, q_M_commit_243n, q_M_commit_244, q_M_commit_247, q_M_commit_250, q_M_commit_252, q_M_commit_253, q_M_commit_254, q_M_commit_255, q_M_commit_257, q_M_commit_258, q_M_commit_259, q_M_commit_261, q_M_commit_264, q_M_commit_265, Option.bind_some, Option.toList_some, Option.toList_none, List.cons_append, List.nil_append, zq_rf_some, zq_rf_none, ↓reduceIte, zq_lt, zq_le, zq_eq, nI_add, zq_up_s, zq_up_o, zq_up_k, zq_b_eq0, Nat.reduceEqDiff, Nat.reduceLeDiff, Nat.reduceLT, Nat.reduceAdd, not_true_eq_false, not_false_eq_true, Nat.not_lt_zero, zq_on_lt, zq_os, false_or, or_false, or_self, Bool.false_eq_true, p1, p2, p3, p4, p5, p6, p7, p8, p9, p10, p11, p12, p13, p14, p15, p16, p17, p18, zi_1, zi_2, zi_3, zi_4, zi_5, zi_6, zi_7, zi_8, zi_9, zi_10, zi_11, zi_12, zi_14, zi_15, zi_16, zi_17, zi_18, zi_f0, zi_f1, zi_f11, zi_f15, zi_u1, zi_u2, zi_u3, zi_u4, zi_u5, zi_u6, zi_u7, zi_u8, zi_u9, zi_u10, zi_u11, zi_u12, zi_u14, zi_u15, zi_u16, zi_u17, zi_u18, zi_v0, zi_v1, zi_v11, zi_v15, zr_pth, h3, h4, zq_div2, ih]
def zr_cb (e : Nat) : Nat → Nat → (Nat → Nat → Nat) → (Nat → Nat → Nat)
  | 0, _, S => S
  | c + 1, n, S => zr_cb e c (n + 1) (zq_up (zq_up S 1 (e * 16 + n) (S 1 (336 + n))) 2 (e * 16 + n) (S 2 (336 + n)))
theorem m_M_commit_g3 {d nx kx r e : Nat} {sh : zq_S} {P : zq_P} {I0 : zq_I} (hM : zr_lay r sh P) {v1 v3 v4 : Option Value} (he : e < 21) : ∀ (c n : Nat) (S : Nat → Nat → Nat), n + c = 16 → zq_F d 95 267 [some (.ref r), v1, some (.int (nI e)), v3, v4, some (.int (nI n))] [] sh (zi r S I0) P nx kx = zq_F d 95 326 [some (.ref r), v1, some (.int (nI e)), v3, v4, some (.int (nI 16))] [] sh (zi r (zr_cb e c n S) I0) P nx kx
  | 0, n, S, h => by
    have h1 : 16 ≤ n := by omega
    have h2 : n = 16 := by omega
    subst h2
    rw [q_M_commit_267]
    simp (disch := first | assumption | omega | exact Nat.le_of_ble_eq_true rfl) only [q_M_commit_269, q_M_commit_271, q_M_commit_274, q_M_commit_274n, q_M_commit_275, q_M_commit_278, q_M_commit_279, q_M_commit_281, q_M_commit_282, q_M_commit_284, q_M_commit_285, q_M_commit_285n, q_M_commit_286, q_M_commit_289, q_M_commit_292, q_M_commit_294, q_M_commit_295, q_M_commit_296, q_M_commit_297, q_M_commit_297n, q_M_commit_298, q_M_commit_301, q_M_commit_302, q_M_commit_304, q_M_commit_305, q_M_commit_307, q_M_commit_308, q_M_commit_308n, q_M_commit_309, q_M_commit_312, q_M_commit_315, q_M_commit_317, q_M_commit_318, q_M_commit_319, q_M_commit_320, q_M_commit_323, Option.bind_some, Option.toList_some, Option.toList_none, List.cons_append, List.nil_append, zq_rf_some, zq_rf_none, ↓reduceIte, zq_lt, zq_le, zq_eq, nI_add, zq_up_s, zq_up_o, zq_up_k, zq_b_eq0, Nat.reduceEqDiff, Nat.reduceLeDiff, Nat.reduceLT, Nat.reduceAdd, not_true_eq_false, not_false_eq_true, Nat.not_lt_zero, zq_on_lt, zq_os, false_or, or_false, or_self, Bool.false_eq_true, zr_cb, h1]
  | c + 1, n, S, h => by
    have ih := m_M_commit_g3 (d := d) (nx := nx) (kx := kx) (I0 := I0) (v1 := v1) (v3 := v3) (v4 := v4) hM he c (n + 1) (zq_up (zq_up S 1 (e * 16 + n) (S 1 (336 + n))) 2 (e * 16 + n) (S 2 (336 + n))) (by omega)
    obtain ⟨s0, t1, n1, t2, n2, t3, n3, t4, n4, t5, n5, t6, n6, t7, n7, t8, n8, t9, n9, t10, n10, t11, n11, t12, n12, t13, n13, t14, n14, t15, n15, t16, n16, t17, n17, t18, n18, p1, p2, p3, p4, p5, p6, p7, p8, p9, p10, p11, p12, p13, p14, p15, p16, p17, p18⟩ := id hM
    have h1 : ¬ 16 ≤ n := by omega
    rw [q_M_commit_267]
    simp (disch := first | assumption | omega | exact Nat.le_of_ble_eq_true rfl) only [q_M_commit_269, q_M_commit_271, q_M_commit_274, q_M_commit_274n, q_M_commit_275, q_M_commit_278, q_M_commit_279, q_M_commit_281, q_M_commit_282, q_M_commit_284, q_M_commit_285, q_M_commit_285n, q_M_commit_286, q_M_commit_289, q_M_commit_292, q_M_commit_294, q_M_commit_295, q_M_commit_296, q_M_commit_297, q_M_commit_297n, q_M_commit_298, q_M_commit_301, q_M_commit_302, q_M_commit_304, q_M_commit_305, q_M_commit_307, q_M_commit_308, q_M_commit_308n, q_M_commit_309, q_M_commit_312, q_M_commit_315, q_M_commit_317, q_M_commit_318, q_M_commit_319, q_M_commit_320, q_M_commit_323, Option.bind_some, Option.toList_some, Option.toList_none, List.cons_append, List.nil_append, zq_rf_some, zq_rf_none, ↓reduceIte, zq_lt, zq_le, zq_eq, nI_add, zq_up_s, zq_up_o, zq_up_k, zq_b_eq0, Nat.reduceEqDiff, Nat.reduceLeDiff, Nat.reduceLT, Nat.reduceAdd, not_true_eq_false, not_false_eq_true, Nat.not_lt_zero, zq_on_lt, zq_os, false_or, or_false, or_self, Bool.false_eq_true, p1, p2, p3, p4, p5, p6, p7, p8, p9, p10, p11, p12, p13, p14, p15, p16, p17, p18, zi_1, zi_2, zi_3, zi_4, zi_5, zi_6, zi_7, zi_8, zi_9, zi_10, zi_11, zi_12, zi_14, zi_15, zi_16, zi_17, zi_18, zi_f0, zi_f1, zi_f11, zi_f15, zi_u1, zi_u2, zi_u3, zi_u4, zi_u5, zi_u6, zi_u7, zi_u8, zi_u9, zi_u10, zi_u11, zi_u12, zi_u14, zi_u15, zi_u16, zi_u17, zi_u18, zi_v0, zi_v1, zi_v11, zi_v15, zr_cb, h1, pk_mul, ih]
/-- what a commit leaves, but for the scratch rows; e: the epoch before it -/
def zr_c3 (S : Nat → Nat → Nat) (p e : Nat) : Nat → Nat → Nat := zr_mid (zq_up S 3 (e + 1) 0) p e
def zr_cmm (S : Nat → Nat → Nat) (p e : Nat) : List (Nat × Nat) := zr_pm (fun x => zr_c3 S p e 1 (336 + x)) (fun x => zr_c3 S p e 2 (336 + x)) (zr_ad (zr_c3 S p e)) 3 (8 + S 9 p) ((8 + S 9 p) / 2) (S 0 1) ++ zr_wel (S 10) (S 11) (zr_c3 S p e 9) (S 7) (S 0 1) (8 + S 9 p) (e + 1) (S 0 11) 0
def zr_cfin (S : Nat → Nat → Nat) (T : Nat → Nat → Nat) (p e : Nat) : Nat → Nat → Nat := zq_up (zq_up (zq_up (zq_up (zq_up T 5 (e + 1) (T 0 1 - 2)) 4 (e + 1) (T 0 15 - S 0 15)) 0 0 (e + 2)) 8 p (e + 1)) 0 11 0
def zr_commit (S : Nat → Nat → Nat) (p e : Nat) : Nat → Nat → Nat := zr_cfin S (zr_cb (e + 1) 16 0 (zr_pth 4 (8 + S 9 p) (zr_sm (zr_c3 S p e) (zr_cmm S p e)))) p e
