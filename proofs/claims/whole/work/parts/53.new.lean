/-! THE CONSTRUCTORS -/
def zc_ish (sh : zq_S) (g : Nat) : zq_S := (zq_us (zq_us (zq_us (zq_us (zq_us (zq_us (zq_us (zq_us (zq_us (zq_us (zq_us (zq_us (zq_us (zq_us (zq_us (zq_us (zq_us (zq_us (zq_us (zq_us (zq_us (zq_us (zq_us (zq_us (zq_us (zq_us sh g (100, 0)) (g + 1) (53, 10)) (g + 2) (103, 0)) (g + 3) (103, 0)) (g + 4) (103, 0)) (g + 5) (103, 0)) (g + 6) (103, 0)) (g + 7) (103, 0)) (g + 8) (103, 0)) (g + 9) (103, 0)) (g + 10) (103, 0)) (g + 11) (103, 0)) (g + 12) (51, 21)) (g + 13) (102, 0)) (g + 14) (3, 121)) (g + 15) (3, 21)) (g + 16) (104, 0)) (g + 17) (2, 10)) (g + 18) (104, 0)) (g + 19) (2, 8)) (g + 20) (104, 0)) (g + 21) (2, 10)) (g + 22) (104, 0)) (g + 23) (2, 15)) (g + 24) (104, 0)) (g + 25) (2, 5))
def zc_iI (I : zq_I) (g : Nat) : zq_I := (zq_up (zq_up (zq_row (zq_row (zq_row (zq_row (zq_row (zq_row (zq_row (zq_row (zq_row (zq_row (zq_row (zq_row (zq_row (zq_row (zq_row (zq_row (zq_row (zq_row (zq_row (zq_row (zq_row (zq_row (zq_row (zq_row I g 0) (g + 2) 0) (g + 3) 0) (g + 4) 0) (g + 5) 0) (g + 6) 0) (g + 7) 0) (g + 8) 0) (g + 9) 0) (g + 10) 0) (g + 11) 0) (g + 13) 0) (g + 14) 0) (g + 15) 0) (g + 16) 0) (g + 17) 0) (g + 18) 0) (g + 19) 0) (g + 20) 0) (g + 21) 0) (g + 22) 0) (g + 23) 0) (g + 24) 0) (g + 25) 0) g 8 (-1)) g 9 (nI 0))
def zc_iP (P : zq_P) (g : Nat) : zq_P := (zq_up (zq_up (zq_row (zq_up (zq_up (zq_row (zq_up (zq_up (zq_row (zq_up (zq_up (zq_row (zq_up (zq_up (zq_row (zq_up (zq_up (zq_up (zq_row (zq_up (zq_row (zq_up (zq_row (zq_up (zq_row (zq_up (zq_row (zq_up (zq_row (zq_up (zq_row (zq_up (zq_row (zq_up (zq_row (zq_up (zq_row (zq_up (zq_row (zq_up (zq_row (zq_up (zq_row (zq_row P g none) (g + 1) none) g 0 (some (g + 1))) (g + 2) none) (g + 1) 0 (some (g + 2))) (g + 3) none) (g + 1) 1 (some (g + 3))) (g + 4) none) (g + 1) 2 (some (g + 4))) (g + 5) none) (g + 1) 3 (some (g + 5))) (g + 6) none) (g + 1) 4 (some (g + 6))) (g + 7) none) (g + 1) 5 (some (g + 7))) (g + 8) none) (g + 1) 6 (some (g + 8))) (g + 9) none) (g + 1) 7 (some (g + 9))) (g + 10) none) (g + 1) 8 (some (g + 10))) (g + 11) none) (g + 1) 9 (some (g + 11))) (g + 12) none) g 1 (some (g + 12))) (g + 13) none) (g + 13) 0 (some (g + 14))) (g + 13) 1 (some (g + 15))) g 2 (some (g + 13))) (g + 16) none) (g + 16) 0 (some (g + 17))) g 3 (some (g + 16))) (g + 18) none) (g + 18) 0 (some (g + 19))) g 4 (some (g + 18))) (g + 20) none) (g + 20) 0 (some (g + 21))) g 5 (some (g + 20))) (g + 22) none) (g + 22) 0 (some (g + 23))) g 6 (some (g + 22))) (g + 24) none) (g + 24) 0 (some (g + 25))) g 7 (some (g + 24)))
theorem m_listenerInit {d nx kx a : Nat} {sh : zq_S} {I : zq_I} {P : zq_P} (ha : (sh a).1 = 102) (h : a < nx) : zq_C d 49 [.ref a] sh I P nx kx = some (none, zq_us (zq_us sh nx (3, 121)) (nx + 1) (3, 21), zq_row (zq_row I nx 0) (nx + 1) 0, zq_up (zq_up P a 0 (some nx)) a 1 (some (nx + 1)), nx + 2, kx + 142) := by
  simp (disch := first | assumption | omega | exact Nat.le_of_ble_eq_true rfl | (simp only [zq_us, if_true] <;> (repeat (first | rw [if_neg (by omega)] | rw [if_pos (by omega)])) <;> (first | assumption | rfl | decide))) only [q_Listener_init, q_Listener_init_0, q_Listener_init_0n, q_Listener_init_1, q_Listener_init_4, q_Listener_init_4n, q_Listener_init_5, q_Listener_init_7, q_Listener_init_9, q_Listener_init_12, q_Listener_init_12n, q_Listener_init_13, q_Listener_init_15, q_Listener_init_17, q_Listener_init_20, Option.bind_some, Option.toList_some, Option.toList_none, List.cons_append, List.nil_append, zq_rf_some, zq_rf_none, ↓reduceIte, zq_lt, zq_le, zq_eq, nI_add, zq_up_s, zq_up_o, zq_up_k, zq_b_eq0, Nat.reduceEqDiff, Nat.reduceLeDiff, Nat.reduceLT, Nat.reduceAdd, not_true_eq_false, not_false_eq_true, Nat.not_lt_zero, zq_on_lt, zq_os, false_or, or_false, or_self, Bool.false_eq_true, Nat.add_assoc]
theorem m_personInit {d nx kx a : Nat} {sh : zq_S} {I : zq_I} {P : zq_P} : zq_C d 57 [.ref a] sh I P nx kx = some (none, sh, I, P, nx, kx) := by
  simp (disch := first | assumption | omega | exact Nat.le_of_ble_eq_true rfl | (simp only [zq_us, if_true] <;> (repeat (first | rw [if_neg (by omega)] | rw [if_pos (by omega)])) <;> (first | assumption | rfl | decide))) only [q_Person_init, q_Person_init_0, q_Person_init_0n, q_Person_init_1, q_Person_init_4, Option.bind_some, Option.toList_some, Option.toList_none, List.cons_append, List.nil_append, zq_rf_some, zq_rf_none, ↓reduceIte, zq_lt, zq_le, zq_eq, nI_add, zq_up_s, zq_up_o, zq_up_k, zq_b_eq0, Nat.reduceEqDiff, Nat.reduceLeDiff, Nat.reduceLT, Nat.reduceAdd, not_true_eq_false, not_false_eq_true, Nat.not_lt_zero, zq_on_lt, zq_os, false_or, or_false, or_self, Bool.false_eq_true]
theorem m_G_init {d kx g : Nat} {sh : zq_S} {I : zq_I} {P : zq_P} : zq_C (d + 1) 1 [.ref g] (zq_us sh g (100, 0)) (zq_row I g 0) (zq_row P g none) (g + 1) kx = some (none, zc_ish sh g, zc_iI I g, zc_iP P g, g + 26, kx + 285) := by
  unfold zc_ish zc_iI zc_iP
  simp (disch := first | assumption | omega | exact Nat.le_of_ble_eq_true rfl | (simp only [zq_us, if_true] <;> (repeat (first | rw [if_neg (by omega)] | rw [if_pos (by omega)])) <;> (first | assumption | rfl | decide))) only [q_G_init, q_G_init_0, q_G_init_0n, q_G_init_1, q_G_init_4, q_G_init_4n, q_G_init_5, q_G_init_7, q_G_init_10, q_G_init_13, q_G_init_14, q_G_init_16, q_G_init_18, q_G_init_21, q_G_init_21n, q_G_init_22, q_G_init_25, q_G_init_26, q_G_init_29, q_G_init_29i, q_G_init_30, q_G_init_33, q_G_init_34, q_G_init_37, q_G_init_40, q_G_init_40n, q_G_init_41, q_G_init_43, q_G_init_46, q_G_init_49, q_G_init_49n, q_G_init_50, q_G_init_53, q_G_init_53i, q_G_init_54, q_G_init_57, q_G_init_60, q_G_init_60n, q_G_init_61, q_G_init_64, q_G_init_64i, q_G_init_65, q_G_init_67, q_G_init_70, q_G_init_73, q_G_init_73n, q_G_init_74, q_G_init_77, q_G_init_77i, q_G_init_78, q_G_init_80, q_G_init_83, q_G_init_86, q_G_init_86n, q_G_init_87, q_G_init_90, q_G_init_90i, q_G_init_91, q_G_init_93, q_G_init_96, q_G_init_99, q_G_init_99n, q_G_init_100, q_G_init_103, q_G_init_103i, q_G_init_104, q_G_init_106, q_G_init_109, q_G_init_112, q_G_init_112n, q_G_init_113, q_G_init_116, q_G_init_116i, q_G_init_117, q_G_init_118, q_G_init_121, q_G_init_124, q_G_init_124n, q_G_init_125, q_G_init_126, q_G_init_129, q_G_init_129n, q_G_init_130, q_G_init_131, q_G_init_134, q_G_init_15, Option.bind_some, Option.toList_some, Option.toList_none, List.cons_append, List.nil_append, zq_rf_some, zq_rf_none, ↓reduceIte, zq_lt, zq_le, zq_eq, nI_add, zq_up_s, zq_up_o, zq_up_k, zq_b_eq0, Nat.reduceEqDiff, Nat.reduceLeDiff, Nat.reduceLT, Nat.reduceAdd, not_true_eq_false, not_false_eq_true, Nat.not_lt_zero, zq_on_lt, zq_os, false_or, or_false, or_self, Bool.false_eq_true, Nat.add_assoc, m_rowInit, m_listenerInit, m_personInit, zq_row_o, zq_row_s]
theorem zc_ish_o {sh : zq_S} {g a : Nat} (h : a < g) : zc_ish sh g a = sh a := by
  unfold zc_ish zq_us
  rw [if_neg (by omega), if_neg (by omega), if_neg (by omega), if_neg (by omega), if_neg (by omega), if_neg (by omega), if_neg (by omega), if_neg (by omega), if_neg (by omega), if_neg (by omega), if_neg (by omega), if_neg (by omega), if_neg (by omega), if_neg (by omega), if_neg (by omega), if_neg (by omega), if_neg (by omega), if_neg (by omega), if_neg (by omega), if_neg (by omega), if_neg (by omega), if_neg (by omega), if_neg (by omega), if_neg (by omega), if_neg (by omega), if_neg (by omega)]
theorem zc_iP_o {P : zq_P} {g a j : Nat} (h : a < g) : zc_iP P g a j = P a j := by
  unfold zc_iP
  rw [zq_up_o (by omega), zq_up_o (by omega), zq_row_o (by omega), zq_up_o (by omega), zq_up_o (by omega), zq_row_o (by omega), zq_up_o (by omega), zq_up_o (by omega), zq_row_o (by omega), zq_up_o (by omega), zq_up_o (by omega), zq_row_o (by omega), zq_up_o (by omega), zq_up_o (by omega), zq_row_o (by omega), zq_up_o (by omega), zq_up_o (by omega), zq_up_o (by omega), zq_row_o (by omega), zq_up_o (by omega), zq_row_o (by omega), zq_up_o (by omega), zq_row_o (by omega), zq_up_o (by omega), zq_row_o (by omega), zq_up_o (by omega), zq_row_o (by omega), zq_up_o (by omega), zq_row_o (by omega), zq_up_o (by omega), zq_row_o (by omega), zq_up_o (by omega), zq_row_o (by omega), zq_up_o (by omega), zq_row_o (by omega), zq_up_o (by omega), zq_row_o (by omega), zq_up_o (by omega), zq_row_o (by omega), zq_up_o (by omega), zq_row_o (by omega), zq_up_o (by omega), zq_row_o (by omega), zq_row_o (by omega)]
theorem zc_i_lay {g : Nat} {sh : zq_S} {P : zq_P} : zc_lay g 0 (zc_ish sh g) (zc_iP P g) := by
  unfold zc_lay zc_li zc_rw zc_ish zc_iP
  refine ⟨?_, ?_, ?_, ?_, ?_, ?_, ?_, ?_, ?_, ?_, ?_, ?_, ?_, ?_, ⟨?_, ?_, ?_, ?_, ?_, ?_, ?_⟩, ⟨?_, ?_, ?_, ?_, by omega, by omega, by decide⟩, ⟨?_, ?_, ?_, ?_, by omega, by omega, by decide⟩, ⟨?_, ?_, ?_, ?_, by omega, by omega, by decide⟩, ⟨?_, ?_, ?_, ?_, by omega, by omega, by decide⟩, ⟨?_, ?_, ?_, ?_, by omega, by omega, by decide⟩, fun e he => absurd he (Nat.not_lt_zero e)⟩
  case refine_12 =>
    intro p hp
    have : p = 0 ∨ p = 1 ∨ p = 2 ∨ p = 3 ∨ p = 4 ∨ p = 5 ∨ p = 6 ∨ p = 7 ∨ p = 8 ∨ p = 9 := by omega
    rcases this with rfl | rfl | rfl | rfl | rfl | rfl | rfl | rfl | rfl | rfl <;> simp [zq_us, zq_up, zq_row]
  all_goals simp [zq_us, zq_up, zq_row]
theorem zc_i_I {g : Nat} {I : zq_I} (h : ∀ a j, g ≤ a → I a j = 0) : zc_iI I g = zx g (fun _ _ => 0) I := by
  have z : ∀ (J : zq_I) (k : Nat), (∀ a j, g ≤ a → J a j = 0) → zq_row J (g + k) 0 = J := by
    intro J k hJ
    funext a j
    unfold zq_row
    split
    · rename_i q
      rw [q, hJ _ _ (by omega)]
    · rfl
  unfold zc_iI
  rw [show zq_row I g 0 = I from z I 0 h, z I 2 h, z I 3 h, z I 4 h, z I 5 h, z I 6 h, z I 7 h, z I 8 h, z I 9 h, z I 10 h, z I 11 h, z I 13 h, z I 14 h, z I 15 h, z I 16 h, z I 17 h, z I 18 h, z I 19 h, z I 20 h, z I 21 h, z I 22 h, z I 23 h, z I 24 h, z I 25 h]
  funext a j
  unfold zq_up zx xe
  by_cases c : g ≤ a ∧ ¬ (g + 26 ≤ a ∧ a < g + 45)
  · rw [if_pos c]
    by_cases c1 : a = g
    · subst c1
      by_cases c9 : j = 9
      · subst c9
        simp
      · by_cases c8 : j = 8
        · subst c8
          simp
          decide
        · simp [c9, c8, h, nI_0]
    · rw [if_neg (fun q => c1 q.1), if_neg (fun q => c1 q.1), h _ _ c.1, if_neg (by omega)]
      rfl
  · rw [if_neg c, if_neg (by omega), if_neg (by omega)]
def zm_ish (sh : zq_S) (r : Nat) : zq_S := (zq_us (zq_us (zq_us (zq_us (zq_us (zq_us (zq_us (zq_us (zq_us (zq_us (zq_us (zq_us (zq_us (zq_us (zq_us (zq_us (zq_us (zq_us (zq_us sh r (106, 0)) (r + 1) (2, 352)) (r + 2) (2, 352)) (r + 3) (2, 21)) (r + 4) (2, 21)) (r + 5) (2, 21)) (r + 6) (2, 10)) (r + 7) (2, 10)) (r + 8) (2, 10)) (r + 9) (2, 10)) (r + 10) (2, 32)) (r + 11) (2, 32)) (r + 12) (2, 32)) (r + 13) (2, 640)) (r + 14) (2, 640)) (r + 15) (3, 121)) (r + 16) (3, 21)) (r + 17) (2, 16)) (r + 18) (2, 16))
def zm_iI (I : zq_I) (r : Nat) : zq_I := (zq_row (zq_row (zq_row (zq_row (zq_row (zq_row (zq_up (zq_row (zq_row (zq_row (zq_up (zq_row (zq_row (zq_row (zq_row (zq_row (zq_row (zq_row (zq_row (zq_row (zq_up (zq_up (zq_row I r 0) r 0 (-1)) r 1 (nI 0)) (r + 1) 0) (r + 2) 0) (r + 3) 0) (r + 4) 0) (r + 5) 0) (r + 6) 0) (r + 7) 0) (r + 8) 0) (r + 9) 0) r 11 (nI 0)) (r + 10) 0) (r + 11) 0) (r + 12) 0) r 15 (nI 0)) (r + 13) 0) (r + 14) 0) (r + 15) 0) (r + 16) 0) (r + 17) 0) (r + 18) 0)
def zm_iP (P : zq_P) (r : Nat) : zq_P := (zq_up (zq_up (zq_up (zq_up (zq_up (zq_up (zq_up (zq_up (zq_up (zq_up (zq_up (zq_up (zq_up (zq_up (zq_up (zq_up (zq_up (zq_up (zq_row P r none) r 2 (some (r + 1))) r 3 (some (r + 2))) r 4 (some (r + 3))) r 5 (some (r + 4))) r 6 (some (r + 5))) r 7 (some (r + 6))) r 8 (some (r + 7))) r 9 (some (r + 8))) r 10 (some (r + 9))) r 12 (some (r + 10))) r 13 (some (r + 11))) r 14 (some (r + 12))) r 16 (some (r + 13))) r 17 (some (r + 14))) r 18 (some (r + 15))) r 19 (some (r + 16))) r 20 (some (r + 17))) r 21 (some (r + 18)))
theorem m_M_init {d kx r : Nat} {sh : zq_S} {I : zq_I} {P : zq_P} : zq_C d 76 [.ref r] (zq_us sh r (106, 0)) (zq_row I r 0) (zq_row P r none) (r + 1) kx = some (none, zm_ish sh r, zm_iI I r, zm_iP P r, r + 19, kx + 2357) := by
  unfold zm_ish zm_iI zm_iP
  simp (disch := first | assumption | omega | exact Nat.le_of_ble_eq_true rfl | (simp only [zq_us, if_true] <;> (repeat (first | rw [if_neg (by omega)] | rw [if_pos (by omega)])) <;> (first | assumption | rfl | decide))) only [q_M_init, q_M_init_0, q_M_init_0n, q_M_init_1, q_M_init_4, q_M_init_4n, q_M_init_5, q_M_init_6, q_M_init_9, q_M_init_9n, q_M_init_10, q_M_init_11, q_M_init_14, q_M_init_14n, q_M_init_15, q_M_init_18, q_M_init_20, q_M_init_23, q_M_init_23n, q_M_init_24, q_M_init_27, q_M_init_29, q_M_init_32, q_M_init_32n, q_M_init_33, q_M_init_35, q_M_init_37, q_M_init_40, q_M_init_40n, q_M_init_41, q_M_init_43, q_M_init_45, q_M_init_48, q_M_init_48n, q_M_init_49, q_M_init_51, q_M_init_53, q_M_init_56, q_M_init_56n, q_M_init_57, q_M_init_59, q_M_init_61, q_M_init_64, q_M_init_64n, q_M_init_65, q_M_init_67, q_M_init_69, q_M_init_72, q_M_init_72n, q_M_init_73, q_M_init_75, q_M_init_77, q_M_init_80, q_M_init_80n, q_M_init_81, q_M_init_83, q_M_init_85, q_M_init_88, q_M_init_88n, q_M_init_89, q_M_init_90, q_M_init_93, q_M_init_93n, q_M_init_94, q_M_init_96, q_M_init_98, q_M_init_101, q_M_init_101n, q_M_init_102, q_M_init_104, q_M_init_106, q_M_init_109, q_M_init_109n, q_M_init_110, q_M_init_112, q_M_init_114, q_M_init_117, q_M_init_117n, q_M_init_118, q_M_init_119, q_M_init_122, q_M_init_122n, q_M_init_123, q_M_init_126, q_M_init_128, q_M_init_131, q_M_init_131n, q_M_init_132, q_M_init_135, q_M_init_137, q_M_init_140, q_M_init_140n, q_M_init_141, q_M_init_143, q_M_init_145, q_M_init_148, q_M_init_148n, q_M_init_149, q_M_init_151, q_M_init_153, q_M_init_156, q_M_init_156n, q_M_init_157, q_M_init_159, q_M_init_161, q_M_init_164, q_M_init_164n, q_M_init_165, q_M_init_167, q_M_init_169, q_M_init_172, Option.bind_some, Option.toList_some, Option.toList_none, List.cons_append, List.nil_append, zq_rf_some, zq_rf_none, ↓reduceIte, zq_lt, zq_le, zq_eq, nI_add, zq_up_s, zq_up_o, zq_up_k, zq_b_eq0, Nat.reduceEqDiff, Nat.reduceLeDiff, Nat.reduceLT, Nat.reduceAdd, not_true_eq_false, not_false_eq_true, Nat.not_lt_zero, zq_on_lt, zq_os, false_or, or_false, or_self, Bool.false_eq_true, Nat.add_assoc]
theorem zm_ish_o {sh : zq_S} {r a : Nat} (h : a < r) : zm_ish sh r a = sh a := by
  unfold zm_ish zq_us
  rw [if_neg (by omega), if_neg (by omega), if_neg (by omega), if_neg (by omega), if_neg (by omega), if_neg (by omega), if_neg (by omega), if_neg (by omega), if_neg (by omega), if_neg (by omega), if_neg (by omega), if_neg (by omega), if_neg (by omega), if_neg (by omega), if_neg (by omega), if_neg (by omega), if_neg (by omega), if_neg (by omega), if_neg (by omega)]
theorem zm_iP_o {P : zq_P} {r a j : Nat} (h : a < r) : zm_iP P r a j = P a j := by
  unfold zm_iP
  rw [zq_up_o (by omega), zq_up_o (by omega), zq_up_o (by omega), zq_up_o (by omega), zq_up_o (by omega), zq_up_o (by omega), zq_up_o (by omega), zq_up_o (by omega), zq_up_o (by omega), zq_up_o (by omega), zq_up_o (by omega), zq_up_o (by omega), zq_up_o (by omega), zq_up_o (by omega), zq_up_o (by omega), zq_up_o (by omega), zq_up_o (by omega), zq_up_o (by omega), zq_row_o (by omega)]
theorem zm_i_lay {r : Nat} {sh : zq_S} {P : zq_P} : zr_lay r (zm_ish sh r) (zm_iP P r) := by
  unfold zr_lay zm_ish zm_iP
  refine ⟨?_, ?_, ?_, ?_, ?_, ?_, ?_, ?_, ?_, ?_, ?_, ?_, ?_, ?_, ?_, ?_, ?_, ?_, ?_, ?_, ?_, ?_, ?_, ?_, ?_, ?_, ?_, ?_, ?_, ?_, ?_, ?_, ?_, ?_, ?_, ?_, ?_, ?_, ?_, ?_, ?_, ?_, ?_, ?_, ?_, ?_, ?_, ?_, ?_, ?_, ?_, ?_, ?_, ?_, ?_⟩ <;> simp [zq_us, zq_up, zq_row]
theorem zm_i_I {r : Nat} {I : zq_I} (h : ∀ a j, r ≤ a → I a j = 0) : zm_iI I r = zi r (fun _ _ => 0) I := by
  have z : ∀ (J : zq_I) (k : Nat), (∀ j, J (r + k) j = 0) → zq_row J (r + k) 0 = J := by
    intro J k hJ
    funext a j
    unfold zq_row
    split
    · rename_i q
      rw [q, hJ]
    · rfl
  unfold zm_iI
  funext a j
  unfold zi ze
  by_cases c : r ≤ a ∧ a < r + 19
  · rw [if_pos c]
    obtain ⟨k, rfl⟩ : ∃ k, a = r + k := ⟨a - r, by omega⟩
    have hk : k = 0 ∨ k = 1 ∨ k = 2 ∨ k = 3 ∨ k = 4 ∨ k = 5 ∨ k = 6 ∨ k = 7 ∨ k = 8 ∨ k = 9 ∨ k = 10 ∨ k = 11 ∨ k = 12 ∨ k = 13 ∨ k = 14 ∨ k = 15 ∨ k = 16 ∨ k = 17 ∨ k = 18 := by omega
    rw [Nat.add_sub_cancel_left]
    rcases hk with rfl | rfl | rfl | rfl | rfl | rfl | rfl | rfl | rfl | rfl | rfl | rfl | rfl | rfl | rfl | rfl | rfl | rfl | rfl
    · by_cases c0 : j = 0
      · subst c0
        simp [zq_up, zq_row]
        decide
      · by_cases c1 : j = 1
        · subst c1
          simp [zq_up, zq_row]
        · by_cases c11 : j = 11
          · subst c11
            simp [zq_up, zq_row]
          · by_cases c15 : j = 15
            · subst c15
              simp [zq_up, zq_row]
            · simp [zq_up, zq_row, c0, c1, c11, c15, nI_0]
    all_goals simp [zq_up, zq_row, nI_0]
  · rw [if_neg c, zq_row_o (by omega), zq_row_o (by omega), zq_row_o (by omega), zq_row_o (by omega), zq_row_o (by omega), zq_row_o (by omega), zq_up_o (by omega), zq_row_o (by omega), zq_row_o (by omega), zq_row_o (by omega), zq_up_o (by omega), zq_row_o (by omega), zq_row_o (by omega), zq_row_o (by omega), zq_row_o (by omega), zq_row_o (by omega), zq_row_o (by omega), zq_row_o (by omega), zq_row_o (by omega), zq_row_o (by omega), zq_up_o (by omega), zq_up_o (by omega), zq_row_o (by omega)]
