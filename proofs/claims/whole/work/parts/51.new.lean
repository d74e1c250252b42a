theorem zx_new {g k c : Nat} {X : (Nat → Nat → Nat)} {I0 : zq_I} (hk : 45 ≤ k) : zq_row (zq_row (zq_row (zq_row (zq_up (zq_row (zq_row (zq_row (zq_row (zx g X I0) (g + k) 0) (g + k + 1) 0) (g + k + 2) 0) (g + k + 3) 0) (g + k) 1 (nI c)) (g + k + 4) 0) (g + k + 5) 0) (g + k + 6) 0) (g + k + 7) 0 = zx g (zc_new X k c) I0 := by
  simp only [Nat.add_assoc]
  rw [zx_row (by omega) (by omega), zx_row (by omega) (by omega), zx_row (by omega) (by omega), zx_row (by omega) (by omega), zx_u (by omega) (by omega), zx_row (by omega) (by omega), zx_row (by omega) (by omega), zx_row (by omega) (by omega), zx_row (by omega) (by omega)]
  rfl
theorem c_epochInit {d kx g k c : Nat} {sh : zq_S} {P : zq_P} {X : (Nat → Nat → Nat)} {I0 : zq_I} (hk : 45 ≤ k) : zq_C (d + 1) 43 [.ref (g + k), .int (nI c)] (zq_us sh (g + k) (101, 0)) (zq_row (zx g X I0) (g + k) 0) (zq_row P (g + k) none) (g + k + 1) kx = some (none, zc_nsh sh (g + k), zx g (zc_new X k c) I0, zc_nP P (g + k), g + k + 8, kx + 70) := by
  rw [m_epochInit, zx_new hk]
/-- nothing below n is changed, but the row of epochs -/
def zc_kp (g n : Nat) (sh : zq_S) (P : zq_P) (sh' : zq_S) (P' : zq_P) : Prop := (∀ a, a < n → sh' a = sh a) ∧ ∀ a j, a < n → a ≠ g + 12 → P' a j = P a j
theorem zc_rw.kp {g k len n : Nat} {sh sh' : zq_S} {P P' : zq_P} (h : zc_rw g k len sh P) (q : zc_kp g n sh P sh' P') (hn : g + (k + 2) ≤ n) (hk : k ≠ 12) : zc_rw g k len sh' P' := by
  obtain ⟨a, b, c, d, e, f, i⟩ := h
  exact ⟨by rw [q.1 _ (by omega)]; exact a, by rw [q.2 _ _ (by omega) (by omega)]; exact b, by rw [q.1 _ (by omega)]; exact c, by rw [q.1 _ (by omega)]; exact d, e, f, i⟩
theorem zc_tr.kp {g k n : Nat} {sh sh' : zq_S} {P P' : zq_P} (h : zc_tr g k sh P) (q : zc_kp g n sh P sh' P') (hn : g + (k + 3) ≤ n) : zc_tr g k sh' P' := by
  obtain ⟨a, b, c, d, e, f, i, l⟩ := h
  exact ⟨by rw [q.1 _ (by omega)]; exact a, by rw [q.2 _ _ (by omega) (by omega)]; exact b, by rw [q.2 _ _ (by omega) (by omega)]; exact c, by rw [q.1 _ (by omega)]; exact d, by rw [q.1 _ (by omega)]; exact e, by rw [q.1 _ (by omega)]; exact f, by rw [q.1 _ (by omega)]; exact i, l⟩
theorem zc_ep.kp {g k n : Nat} {sh sh' : zq_S} {P P' : zq_P} (h : zc_ep g k sh P) (q : zc_kp g n sh P sh' P') (hn : g + (k + 8) ≤ n) : zc_ep g k sh' P' := by
  obtain ⟨a, b, c, d, e, f, i, l⟩ := h
  exact ⟨by rw [q.1 _ (by omega)]; exact a, by rw [q.2 _ _ (by omega) (by omega)]; exact b, by rw [q.2 _ _ (by omega) (by omega)]; exact c, by rw [q.2 _ _ (by omega) (by omega)]; exact d, e.kp q (by omega), f.kp q (by omega) (by omega), i.kp q (by omega) (by omega), l⟩
theorem zc_lay.kp {g ne n : Nat} {sh sh' : zq_S} {P P' : zq_P} (hG : zc_lay g ne sh P) (q : zc_kp g n sh P sh' P') (hn : g + (45 + 8 * ne) ≤ n) (h12 : ∀ e, e < ne → P' (g + 12) e = P (g + 12) e) : zc_lay g ne sh' P' := by
  obtain ⟨u0, r0, r1, r2, r3, r4, r5, r6, r7, v1, v2, vp, w1, w2, li, w16, w18, w20, w22, w24, ep⟩ := id hG
  refine ⟨by rw [q.1 _ (by omega)]; exact u0, by rw [q.2 _ _ (by omega) (by omega)]; exact r0, by rw [q.2 _ _ (by omega) (by omega)]; exact r1, by rw [q.2 _ _ (by omega) (by omega)]; exact r2, by rw [q.2 _ _ (by omega) (by omega)]; exact r3, by rw [q.2 _ _ (by omega) (by omega)]; exact r4, by rw [q.2 _ _ (by omega) (by omega)]; exact r5, by rw [q.2 _ _ (by omega) (by omega)]; exact r6, by rw [q.2 _ _ (by omega) (by omega)]; exact r7, by rw [q.1 _ (by omega)]; exact v1, by rw [q.1 _ (by omega)]; exact v2, fun p hp => ⟨by rw [q.2 _ _ (by omega) (by omega)]; exact (vp p hp).1, by rw [q.1 _ (by omega)]; exact (vp p hp).2⟩, by rw [q.1 _ (by omega)]; exact w1, by rw [q.1 _ (by omega)]; exact w2, ?_, w16.kp q (by omega) (by omega), w18.kp q (by omega) (by omega), w20.kp q (by omega) (by omega), w22.kp q (by omega) (by omega), w24.kp q (by omega) (by omega), fun e he => ⟨by rw [h12 e he]; exact (ep e he).1, (ep e he).2.kp q (by omega)⟩⟩
  obtain ⟨a, b, c, d, e, f, i⟩ := li
  exact ⟨by rw [q.1 _ (by omega)]; exact a, by rw [q.2 _ _ (by omega) (by omega)]; exact b, by rw [q.2 _ _ (by omega) (by omega)]; exact c, by rw [q.1 _ (by omega)]; exact d, by rw [q.1 _ (by omega)]; exact e, by rw [q.1 _ (by omega)]; exact f, by rw [q.1 _ (by omega)]; exact i⟩
theorem zc_n_kp {g n : Nat} {sh : zq_S} {P : zq_P} : zc_kp g n sh P (zc_nsh sh n) (zc_nP P n) := ⟨fun _ h => zc_nsh_o h, fun _ _ h _ => zc_nP_o h⟩
def zc_nP2 (P : zq_P) (g ne : Nat) : zq_P := zq_up (zc_nP P (g + (45 + 8 * ne))) (g + 12) ne (some (g + (45 + 8 * ne)))
theorem zc_n2_kp {g ne : Nat} {sh : zq_S} {P : zq_P} : zc_kp g (g + (45 + 8 * ne)) sh P (zc_nsh sh (g + (45 + 8 * ne))) (zc_nP2 P g ne) := by
  refine ⟨fun _ h => zc_nsh_o h, fun a j h h2 => ?_⟩
  unfold zc_nP2
  rw [zq_up_o h2, zc_nP_o h]
theorem zc_n2_lay {g ne : Nat} {sh : zq_S} {P : zq_P} (hG : zc_lay g ne sh P) : zc_lay g (ne + 1) (zc_nsh sh (g + (45 + 8 * ne))) (zc_nP2 P g ne) := by
  have h1 : zc_lay g ne (zc_nsh sh (g + (45 + 8 * ne))) (zc_nP2 P g ne) := hG.kp zc_n2_kp (Nat.le_refl _) (fun e he => by
    unfold zc_nP2
    rw [zq_up_k (by omega), zc_nP_o (by omega)])
  have h2 : zc_ep g (45 + 8 * ne) (zc_nsh sh (g + (45 + 8 * ne))) (zc_nP2 P g ne) := by
    have h0 := zc_n_ep (g := g) (k := 45 + 8 * ne) (sh := sh) (P := P) (by omega)
    exact h0.kp (n := g + (45 + 8 * ne + 8)) ⟨fun _ _ => rfl, fun a j _ h => by unfold zc_nP2; rw [zq_up_o h]⟩ (by omega)
  obtain ⟨u0, r0, r1, r2, r3, r4, r5, r6, r7, v1, v2, vp, w1, w2, li, w16, w18, w20, w22, w24, ep⟩ := h1
  refine ⟨u0, r0, r1, r2, r3, r4, r5, r6, r7, v1, v2, vp, w1, w2, li, w16, w18, w20, w22, w24, fun e he => ?_⟩
  by_cases c : e < ne
  · exact ep e c
  · have : e = ne := by omega
    subst this
    exact ⟨by unfold zc_nP2; rw [zq_up_s], h2⟩
/-! the group is founded -/
def zc_found (X : (Nat → Nat → Nat)) (p : Nat) : (Nat → Nat → Nat) := zc_jn (zq_up (zc_gk (zq_up (zc_new X 45 8) 0 9 (X 0 9 + 1)) 46 8 (X 0 9 + 1)) 0 8 1) p 0 0
theorem k_found_no {d nx kx g : Nat} {sh : zq_S} {P : zq_P} {X : Nat → Nat → Nat} {I0 : zq_I} {ne p : Nat} (hG : zc_lay g ne sh P) (hX : zr_bd X) (hn : X 0 8 = ne) (hp : p < 10) (h : ¬ ne = 0 ∨ X (2 + p) 0 = 1) : zq_C (d + 1) 2 [.ref g, .int (nI p)] sh (zx g X I0) P nx kx = some (some (.int (-1)), sh, zx g X I0, P, nx, kx) := by
  obtain ⟨u0, r0, r1, r2, r3, r4, r5, r6, r7, v1, v2, vp, w1, w2, li, w16, w18, w20, w22, w24, ep⟩ := id hG
  have tp := (vp p hp).2
  have b := hX.lt (2 + p) 0
  have b8 := hX 0 8
  have pe := c_person (d := d) (nx := nx) (kx := kx) (I0 := I0) (X := X) hG hp
  by_cases c1 : ne = 0
  · have c2 := h.resolve_left (fun q => q c1)
    subst c1
    have e1 : nI 0 - nI 1 = (-1 : Int32) := zq_m1'
    simp (disch := first | assumption | omega | exact Nat.le_of_ble_eq_true rfl) only [q_G_found, q_G_found_0, q_G_found_0n, q_G_found_1, q_G_found_2, q_G_found_5, q_G_found_5n, q_G_found_6, q_G_found_6n, q_G_found_7n, q_G_found_7, q_G_found_10, q_G_found_10n, q_G_found_11, q_G_found_14, q_G_found_15, q_G_found_18, q_G_found_18n, q_G_found_19, q_G_found_22, q_G_found_23, q_G_found_26, q_G_found_27, q_G_found_28, q_G_found_31, q_G_found_31i, q_G_found_32, q_G_found_34, q_G_found_37, q_G_found_37n, q_G_found_38, q_G_found_38n, q_G_found_39, q_G_found_42, q_G_found_44, q_G_found_44n, q_G_found_45, q_G_found_48, q_G_found_50, q_G_found_52, q_G_found_55, q_G_found_55n, q_G_found_56, q_G_found_57, q_G_found_60, q_G_found_60n, q_G_found_61, q_G_found_64, q_G_found_64n, q_G_found_65, q_G_found_68, q_G_found_68n, q_G_found_69, q_G_found_70, q_G_found_70n, q_G_found_71, q_G_found_72, q_G_found_72n, q_G_found_73, q_G_found_76, q_G_found_79, q_G_found_81, Option.bind_some, Option.toList_some, Option.toList_none, List.cons_append, List.nil_append, zq_rf_some, zq_rf_none, ↓reduceIte, zq_lt, zq_le, zq_eq, nI_add, zq_up_s, zq_up_o, zq_up_k, zq_b_eq0, Nat.reduceEqDiff, Nat.reduceLeDiff, Nat.reduceLT, Nat.reduceAdd, not_true_eq_false, not_false_eq_true, Nat.not_lt_zero, zq_on_lt, zq_os, false_or, or_false, or_self, Bool.false_eq_true, pe, zx_8, hn, e1, zx_n, c2]
  · obtain ⟨e, rfl⟩ : ∃ e, ne = e + 1 := ⟨ne - 1, by omega⟩
    have e1 := zq_eq_m1 e (by omega)
    simp (disch := first | assumption | omega | exact Nat.le_of_ble_eq_true rfl) only [q_G_found, q_G_found_0, q_G_found_0n, q_G_found_1, q_G_found_2, q_G_found_5, q_G_found_5n, q_G_found_6, q_G_found_6n, q_G_found_7n, q_G_found_7, q_G_found_10, q_G_found_10n, q_G_found_11, q_G_found_14, q_G_found_15, q_G_found_18, q_G_found_18n, q_G_found_19, q_G_found_22, q_G_found_23, q_G_found_26, q_G_found_27, q_G_found_28, q_G_found_31, q_G_found_31i, q_G_found_32, q_G_found_34, q_G_found_37, q_G_found_37n, q_G_found_38, q_G_found_38n, q_G_found_39, q_G_found_42, q_G_found_44, q_G_found_44n, q_G_found_45, q_G_found_48, q_G_found_50, q_G_found_52, q_G_found_55, q_G_found_55n, q_G_found_56, q_G_found_57, q_G_found_60, q_G_found_60n, q_G_found_61, q_G_found_64, q_G_found_64n, q_G_found_65, q_G_found_68, q_G_found_68n, q_G_found_69, q_G_found_70, q_G_found_70n, q_G_found_71, q_G_found_72, q_G_found_72n, q_G_found_73, q_G_found_76, q_G_found_79, q_G_found_81, Option.bind_some, Option.toList_some, Option.toList_none, List.cons_append, List.nil_append, zq_rf_some, zq_rf_none, ↓reduceIte, zq_lt, zq_le, zq_eq, nI_add, zq_up_s, zq_up_o, zq_up_k, zq_b_eq0, Nat.reduceEqDiff, Nat.reduceLeDiff, Nat.reduceLT, Nat.reduceAdd, not_true_eq_false, not_false_eq_true, Nat.not_lt_zero, zq_on_lt, zq_os, false_or, or_false, or_self, Bool.false_eq_true, pe, zx_8, hn, zq_pred, e1]
theorem k_found {d kx g : Nat} {sh : zq_S} {P : zq_P} {X : (Nat → Nat → Nat)} {I0 : zq_I} {p : Nat} (hG : zc_lay g 0 sh P) (hX : zr_bd X) (hn : X 0 8 = 0) (hp : p < 10) (h : ¬ X (2 + p) 0 = 1) : zq_C (d + 3) 2 [.ref g, .int (nI p)] sh (zx g X I0) P (g + 45) kx = some (some (.int (nI (X 0 9 + 1))), zc_nsh sh (g + 45), zx g (zc_found X p) I0, zc_nP2 P g 0, g + 53, kx + 76) := by
  obtain ⟨u0, r0, r1, r2, r3, r4, r5, r6, r7, v1, v2, vp, w1, w2, li, w16, w18, w20, w22, w24, ep⟩ := id hG
  have tp := (vp p hp).2
  have b := hX.lt (2 + p) 0
  have pe := c_person (d := d + 2) (nx := g + 45) (kx := kx) (I0 := I0) (X := X) hG hp
  have e1 : nI 0 - nI 1 = (-1 : Int32) := zq_m1'
  have ei := c_epochInit (d := d + 1) (kx := kx + 6) (g := g) (k := 45) (c := 8) (sh := sh) (P := P) (X := X) (I0 := I0) (by decide)
  have hG1 : zc_lay g 0 (zc_nsh sh (g + 45)) (zc_nP P (g + 45)) := hG.kp zc_n_kp (by omega) (by omega)
  have hE := zc_n_ep (g := g) (k := 45) (sh := sh) (P := P) (by decide)
  have mk := c_makeKey (d := d + 2) (nx := g + 45 + 8) (kx := kx + 6 + 70) (X := zc_new X 45 8) (I0 := I0) hG1
  rw [zc_new_o (by omega)] at mk
  obtain ⟨a1, a2, a3, a4, a5, a6, a7, a8⟩ := hE
  have a51 := a5.1
  have gk := c_giveKey (d := d + 1) (nx := g + 45 + 8) (kx := kx + 6 + 70) (X := zq_up (zc_new X 45 8) 0 9 (X 0 9 + 1)) (I0 := I0) a5 (n := 8) (v := X 0 9 + 1) (by decide) (by decide)
  have s0 : (zc_nsh sh (g + 45) g).1 = 100 := by rw [zc_nsh_o (by omega)]; exact u0
  have s12 : (zc_nsh sh (g + 45) (g + 12)).1 = 51 := by rw [zc_nsh_o (by omega)]; exact w1
  have s122 : (zc_nsh sh (g + 45) (g + 12)).2 = 21 := by rw [zc_nsh_o (by omega)]; exact w2
  have sp : (zc_nsh sh (g + 45) (g + (2 + p))).1 = 103 := by rw [zc_nsh_o (by omega)]; exact tp
  have r1' : zc_nP P (g + 45) g 1 = some (g + 12) := by rw [zc_nP_o (by omega)]; exact r1
  have jn := c_join (P := zc_nP2 P g 0) (d := d + 2) (nx := g + 45 + 8) (kx := kx + 6 + 70) (I0 := I0) (l := 0) (e := 0) (X := zq_up (zc_gk (zq_up (zc_new X 45 8) 0 9 (X 0 9 + 1)) 46 8 (X 0 9 + 1)) 0 8 1) sp hp
  have e8 : nI (0 + 1) - nI 1 = nI 0 := zq_pred 0
  unfold zc_found
  unfold zc_nP2 at jn ⊢
  rw [show 45 + 8 * 0 = 45 from rfl] at jn ⊢
  simp (disch := first | assumption | omega | exact Nat.le_of_ble_eq_true rfl) only [q_G_found, q_G_found_0, q_G_found_0n, q_G_found_1, q_G_found_2, q_G_found_5, q_G_found_5n, q_G_found_6, q_G_found_6n, q_G_found_7n, q_G_found_7, q_G_found_10, q_G_found_10n, q_G_found_11, q_G_found_14, q_G_found_15, q_G_found_18, q_G_found_18n, q_G_found_19, q_G_found_22, q_G_found_23, q_G_found_26, q_G_found_27, q_G_found_28, q_G_found_31, q_G_found_31i, q_G_found_32, q_G_found_34, q_G_found_37, q_G_found_37n, q_G_found_38, q_G_found_38n, q_G_found_39, q_G_found_42, q_G_found_44, q_G_found_44n, q_G_found_45, q_G_found_48, q_G_found_50, q_G_found_52, q_G_found_55, q_G_found_55n, q_G_found_56, q_G_found_57, q_G_found_60, q_G_found_60n, q_G_found_61, q_G_found_64, q_G_found_64n, q_G_found_65, q_G_found_68, q_G_found_68n, q_G_found_69, q_G_found_70, q_G_found_70n, q_G_found_71, q_G_found_72, q_G_found_72n, q_G_found_73, q_G_found_76, q_G_found_79, q_G_found_81, Option.bind_some, Option.toList_some, Option.toList_none, List.cons_append, List.nil_append, zq_rf_some, zq_rf_none, ↓reduceIte, zq_lt, zq_le, zq_eq, nI_add, zq_up_s, zq_up_o, zq_up_k, zq_b_eq0, Nat.reduceEqDiff, Nat.reduceLeDiff, Nat.reduceLT, Nat.reduceAdd, not_true_eq_false, not_false_eq_true, Nat.not_lt_zero, zq_on_lt, zq_os, false_or, or_false, or_self, Bool.false_eq_true, pe, zx_8, hn, e1, zx_n, h, ei, mk, a2, gk, zx_u8, r1', e8, Nat.zero_add, zq_pred, jn]
