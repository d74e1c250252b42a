/-! the listener's counts -/
theorem zr_ct_congr {f h : Nat → Bool} : ∀ (c i : Nat), (∀ k, i ≤ k → k < i + c → f k = h k) → zr_ct f c i = zr_ct h c i
  | 0, _, _ => rfl
  | c + 1, i, q => by
    simp only [zr_ct, q i (Nat.le_refl _) (by omega), zr_ct_congr c (i + 1) (fun k a b => q k (by omega) (by omega))]
theorem zr_ct_set {f h : Nat → Bool} {k : Nat} (hf : f k = false) (hh : h k = true) (ho : ∀ j, j ≠ k → h j = f j) : ∀ (c i : Nat), i ≤ k → k < i + c → zr_ct h c i = zr_ct f c i + 1
  | 0, i, a, b => by omega
  | c + 1, i, a, b => by
    by_cases q : i = k
    · subst q
      simp only [zr_ct, hf, hh, zr_ct_congr c (i + 1) (fun j a b => ho j (by omega)), if_true, Bool.false_eq_true, if_false]
      omega
    · simp only [zr_ct, ho i q, zr_ct_set hf hh ho c (i + 1) (by omega) (by omega)]
      omega
def zc_lg (X : (Nat → Nat → Nat)) : Prop := zr_bd X ∧ X 13 2 = zr_ct (fun k => !(X 14 k == 0)) 120 1 ∧ X 13 3 = zr_ct (fun k => !(X 15 k == 0)) 21 0
theorem zc_lg.hk {X : (Nat → Nat → Nat)} (h : zc_lg X) {k : Nat} (h1 : 1 ≤ k) (h2 : k ≤ 120) : zc_lg (zc_hk X k) := by
  obtain ⟨a, b, c⟩ := h
  have b1 := zr_ct_le (fun k => !(X 14 k == 0)) 120 1
  unfold zc_hk
  split
  · rename_i q
    refine ⟨(a.up (by decide)).up (by omega), ?_, ?_⟩
    · rw [zq_up_s, b]
      refine (zr_ct_set (k := k) ?_ ?_ ?_ 120 1 h1 (by omega)).symm
      · simp [q]
      · simp [zq_up]
      · intro j hj
        simp [zq_up, hj]
    · rw [zq_up_k (by decide), zq_up_o (by decide), c]
      refine zr_ct_congr _ _ (fun j _ _ => ?_)
      simp [zq_up]
  · exact ⟨a, b, c⟩
theorem zc_lg.hs {X : (Nat → Nat → Nat)} (h : zc_lg X) {k : Nat} (h2 : k ≤ 20) : zc_lg (zc_hs X k) := by
  obtain ⟨a, b, c⟩ := h
  have b1 := zr_ct_le (fun k => !(X 15 k == 0)) 21 0
  unfold zc_hs
  split
  · rename_i q
    refine ⟨(a.up (by decide)).up (by omega), ?_, ?_⟩
    · rw [zq_up_k (by decide), zq_up_o (by decide), b]
      refine zr_ct_congr _ _ (fun j _ _ => ?_)
      simp [zq_up]
    · rw [zq_up_s, c]
      refine (zr_ct_set (k := k) ?_ ?_ ?_ 21 0 (by omega) (by omega)).symm
      · simp [q]
      · simp [zq_up]
      · intro j hj
        simp [zq_up, hj]
  · exact ⟨a, b, c⟩
theorem zc_hk_o {X : (Nat → Nat → Nat)} {k a j : Nat} (h1 : a ≠ 13) (h2 : a ≠ 14) : zc_hk X k a j = X a j := by
  unfold zc_hk
  split
  · rw [zq_up_o h1, zq_up_o h2]
  · rfl
theorem zc_hs_o {X : (Nat → Nat → Nat)} {k a j : Nat} (h1 : a ≠ 13) (h2 : a ≠ 15) : zc_hs X k a j = X a j := by
  unfold zc_hs
  split
  · rw [zq_up_o h1, zq_up_o h2]
  · rfl
/-! an epoch's messages, its path -/
def zc_o1 (X : (Nat → Nat → Nat)) (k e i : Nat) : (Nat → Nat → Nat) := if X 14 (X (k + 5) i) = 0 then X else if X (k + 7) i = 0 then zc_hs X e else zc_hk X (X (k + 7) i)
def zc_om (k e : Nat) : Nat → Nat → (Nat → Nat → Nat) → (Nat → Nat → Nat)
  | 0, _, X => X
  | c + 1, i, X => zc_om k e c (i + 1) (zc_o1 X k e i)
/-- an epoch's messages are well formed -/
def zc_ms (X : (Nat → Nat → Nat)) (k : Nat) : Prop := X (k + 4) 1 = X (k + 6) 1 ∧ X (k + 6) 1 ≤ 16 ∧ ∀ i, i < X (k + 6) 1 → 1 ≤ X (k + 5) i ∧ X (k + 5) i ≤ 120 ∧ X (k + 7) i ≤ 120
theorem zc_ms.same {X Y : (Nat → Nat → Nat)} {k : Nat} (h : zc_ms X k) (hk : 45 ≤ k) (e : ∀ a j, 45 ≤ a → Y a j = X a j) : zc_ms Y k := by
  unfold zc_ms
  rw [e _ _ (by omega), e _ _ (by omega)]
  refine ⟨h.1, h.2.1, fun i hi => ?_⟩
  rw [e _ _ (by omega), e _ _ (by omega)]
  exact h.2.2 i hi
theorem zc_o1_o {X : (Nat → Nat → Nat)} {k e i a j : Nat} (h : 16 ≤ a ∨ a < 13) : zc_o1 X k e i a j = X a j := by
  unfold zc_o1
  split
  · rfl
  · split
    · exact zc_hs_o (by omega) (by omega)
    · exact zc_hk_o (by omega) (by omega)
theorem zc_om_o {k e a j : Nat} (h : 16 ≤ a ∨ a < 13) : ∀ (c i : Nat) (X : (Nat → Nat → Nat)), zc_om k e c i X a j = X a j
  | 0, _, _ => rfl
  | c + 1, i, X => by rw [zc_om, zc_om_o h c, zc_o1_o h]
theorem zc_lg.o1 {X : (Nat → Nat → Nat)} (h : zc_lg X) {k e i : Nat} (he : e ≤ 20) (hm : zc_ms X k) (hi : i < X (k + 6) 1) : zc_lg (zc_o1 X k e i) := by
  unfold zc_o1
  split
  · exact h
  · split
    · exact h.hs he
    · exact h.hk (by omega) (hm.2.2 i hi).2.2
theorem c_openMessages_go {d nx kx g : Nat} {sh : zq_S} {P : zq_P} {I0 : zq_I} {k e : Nat} (hl : zc_li g sh P) (h : zc_ep g k sh P) (he : e ≤ 20) : ∀ (c i : Nat) (X : (Nat → Nat → Nat)), zc_lg X → zc_ms X k → i + c = X (k + 6) 1 → zq_F (d + 1) 55 2 [some (.ref (g + 13)), some (.ref (g + k)), some (.int (nI e)), some (.int (nI i))] [] sh (zx g X I0) P nx kx = some (none, sh, zx g (zc_om k e c i X) I0, P, nx, kx)
  | 0, i, X, hX, hm, hi => by
    obtain ⟨a1, a2, a3, a4, a5, a6, a7, a8⟩ := h
    have a71 := a7.1
    have q : X (k + 6) 1 ≤ i := by omega
    have b := hX.1.lt (k + 6) 1
    rw [q_Listener_openMessages_2]
    simp (disch := first | assumption | omega | exact Nat.le_of_ble_eq_true rfl) only [q_Listener_openMessages_0, q_Listener_openMessages_1, q_Listener_openMessages_3, q_Listener_openMessages_3n, q_Listener_openMessages_4, q_Listener_openMessages_7, q_Listener_openMessages_10, q_Listener_openMessages_13, q_Listener_openMessages_13n, q_Listener_openMessages_14, q_Listener_openMessages_14n, q_Listener_openMessages_15, q_Listener_openMessages_18, q_Listener_openMessages_19, q_Listener_openMessages_22, q_Listener_openMessages_25, q_Listener_openMessages_28, q_Listener_openMessages_28n, q_Listener_openMessages_29, q_Listener_openMessages_32, q_Listener_openMessages_33, q_Listener_openMessages_36, q_Listener_openMessages_39, q_Listener_openMessages_39n, q_Listener_openMessages_40, q_Listener_openMessages_41, q_Listener_openMessages_44, q_Listener_openMessages_47, q_Listener_openMessages_47n, q_Listener_openMessages_48, q_Listener_openMessages_48n, q_Listener_openMessages_49, q_Listener_openMessages_52, q_Listener_openMessages_53, q_Listener_openMessages_56, q_Listener_openMessages_59, q_Listener_openMessages_62, q_Listener_openMessages_65, Option.bind_some, Option.toList_some, Option.toList_none, List.cons_append, List.nil_append, zq_rf_some, zq_rf_none, ↓reduceIte, zq_lt, zq_le, zq_eq, nI_add, zq_up_s, zq_up_o, zq_up_k, zq_b_eq0, Nat.reduceEqDiff, Nat.reduceLeDiff, Nat.reduceLT, Nat.reduceAdd, not_true_eq_false, not_false_eq_true, Nat.not_lt_zero, zq_on_lt, zq_os, false_or, or_false, or_self, Bool.false_eq_true, a4, zx_n, q, zc_om]
  | c + 1, i, X, hX, hm, hi => by
    have q : ¬ X (k + 6) 1 ≤ i := by omega
    have b := hX.1.lt (k + 6) 1
    have a8' := h.2.2.2.2.2.2.2
    obtain ⟨m1, m2, m3⟩ := hm.2.2 i (by omega)
    have hX' := hX.o1 he hm (i := i) (by omega)
    have ih := c_openMessages_go (d := d) (nx := nx) (kx := kx) (I0 := I0) hl h he c (i + 1) (zc_o1 X k e i) hX' (hm.same a8' fun a j ha => zc_o1_o (by omega)) (by rw [zc_o1_o (by omega)]; omega)
    obtain ⟨a1, a2, a3, a4, a5, a6, a7, a8⟩ := id h
    have a71 := a7.1
    have a61 := a6.1
    have l1 := hl.1
    have at1 := c_at (d := d) (nx := nx) (kx := kx) (I0 := I0) a6 hX.1 (i := i) (by rw [hm.1]; omega) (by rw [hm.1]; exact hm.2.1)
    have at2 := c_at (d := d) (nx := nx) (kx := kx) (I0 := I0) a7 hX.1 (i := i) (by omega) hm.2.1
    have hk := c_hasKeyN (d := d) (nx := nx) (kx := kx) (I0 := I0) hl hX.1 m1 m2
    have b7 := hX.1.lt (k + 7) i
    by_cases c1 : X 14 (X (k + 5) i) = 0
    · have e1 : zc_o1 X k e i = X := if_pos c1
      rw [e1] at ih
      rw [q_Listener_openMessages_2]
      simp (disch := first | assumption | omega | exact Nat.le_of_ble_eq_true rfl) only [q_Listener_openMessages_0, q_Listener_openMessages_1, q_Listener_openMessages_3, q_Listener_openMessages_3n, q_Listener_openMessages_4, q_Listener_openMessages_7, q_Listener_openMessages_10, q_Listener_openMessages_13, q_Listener_openMessages_13n, q_Listener_openMessages_14, q_Listener_openMessages_14n, q_Listener_openMessages_15, q_Listener_openMessages_18, q_Listener_openMessages_19, q_Listener_openMessages_22, q_Listener_openMessages_25, q_Listener_openMessages_28, q_Listener_openMessages_28n, q_Listener_openMessages_29, q_Listener_openMessages_32, q_Listener_openMessages_33, q_Listener_openMessages_36, q_Listener_openMessages_39, q_Listener_openMessages_39n, q_Listener_openMessages_40, q_Listener_openMessages_41, q_Listener_openMessages_44, q_Listener_openMessages_47, q_Listener_openMessages_47n, q_Listener_openMessages_48, q_Listener_openMessages_48n, q_Listener_openMessages_49, q_Listener_openMessages_52, q_Listener_openMessages_53, q_Listener_openMessages_56, q_Listener_openMessages_59, q_Listener_openMessages_62, q_Listener_openMessages_65, Option.bind_some, Option.toList_some, Option.toList_none, List.cons_append, List.nil_append, zq_rf_some, zq_rf_none, ↓reduceIte, zq_lt, zq_le, zq_eq, nI_add, zq_up_s, zq_up_o, zq_up_k, zq_b_eq0, Nat.reduceEqDiff, Nat.reduceLeDiff, Nat.reduceLT, Nat.reduceAdd, not_true_eq_false, not_false_eq_true, Nat.not_lt_zero, zq_on_lt, zq_os, false_or, or_false, or_self, Bool.false_eq_true, a4, a3, zx_n, q, at1, at2, hk, c1, zc_om, e1, ih]
    · by_cases c2 : X (k + 7) i = 0
      · have e1 : zc_o1 X k e i = zc_hs X e := by rw [zc_o1, if_neg c1, if_pos c2]
        have hs := c_hearSecret (d := d) (nx := nx) (kx := kx) (I0 := I0) hl hX.1 he
        rw [e1] at ih
        rw [q_Listener_openMessages_2]
        simp (disch := first | assumption | omega | exact Nat.le_of_ble_eq_true rfl) only [q_Listener_openMessages_0, q_Listener_openMessages_1, q_Listener_openMessages_3, q_Listener_openMessages_3n, q_Listener_openMessages_4, q_Listener_openMessages_7, q_Listener_openMessages_10, q_Listener_openMessages_13, q_Listener_openMessages_13n, q_Listener_openMessages_14, q_Listener_openMessages_14n, q_Listener_openMessages_15, q_Listener_openMessages_18, q_Listener_openMessages_19, q_Listener_openMessages_22, q_Listener_openMessages_25, q_Listener_openMessages_28, q_Listener_openMessages_28n, q_Listener_openMessages_29, q_Listener_openMessages_32, q_Listener_openMessages_33, q_Listener_openMessages_36, q_Listener_openMessages_39, q_Listener_openMessages_39n, q_Listener_openMessages_40, q_Listener_openMessages_41, q_Listener_openMessages_44, q_Listener_openMessages_47, q_Listener_openMessages_47n, q_Listener_openMessages_48, q_Listener_openMessages_48n, q_Listener_openMessages_49, q_Listener_openMessages_52, q_Listener_openMessages_53, q_Listener_openMessages_56, q_Listener_openMessages_59, q_Listener_openMessages_62, q_Listener_openMessages_65, Option.bind_some, Option.toList_some, Option.toList_none, List.cons_append, List.nil_append, zq_rf_some, zq_rf_none, ↓reduceIte, zq_lt, zq_le, zq_eq, nI_add, zq_up_s, zq_up_o, zq_up_k, zq_b_eq0, Nat.reduceEqDiff, Nat.reduceLeDiff, Nat.reduceLT, Nat.reduceAdd, not_true_eq_false, not_false_eq_true, Nat.not_lt_zero, zq_on_lt, zq_os, false_or, or_false, or_self, Bool.false_eq_true, a4, a3, zx_n, q, at1, at2, hk, c1, c2, hs, zc_om, e1, ih]
      · have e1 : zc_o1 X k e i = zc_hk X (X (k + 7) i) := by rw [zc_o1, if_neg c1, if_neg c2]
        have hs := c_hearKey (d := d) (nx := nx) (kx := kx) (I0 := I0) hl hX.1 (show 1 ≤ X (k + 7) i by omega) m3
        rw [e1] at ih
        rw [q_Listener_openMessages_2]
        simp (disch := first | assumption | omega | exact Nat.le_of_ble_eq_true rfl) only [q_Listener_openMessages_0, q_Listener_openMessages_1, q_Listener_openMessages_3, q_Listener_openMessages_3n, q_Listener_openMessages_4, q_Listener_openMessages_7, q_Listener_openMessages_10, q_Listener_openMessages_13, q_Listener_openMessages_13n, q_Listener_openMessages_14, q_Listener_openMessages_14n, q_Listener_openMessages_15, q_Listener_openMessages_18, q_Listener_openMessages_19, q_Listener_openMessages_22, q_Listener_openMessages_25, q_Listener_openMessages_28, q_Listener_openMessages_28n, q_Listener_openMessages_29, q_Listener_openMessages_32, q_Listener_openMessages_33, q_Listener_openMessages_36, q_Listener_openMessages_39, q_Listener_openMessages_39n, q_Listener_openMessages_40, q_Listener_openMessages_41, q_Listener_openMessages_44, q_Listener_openMessages_47, q_Listener_openMessages_47n, q_Listener_openMessages_48, q_Listener_openMessages_48n, q_Listener_openMessages_49, q_Listener_openMessages_52, q_Listener_openMessages_53, q_Listener_openMessages_56, q_Listener_openMessages_59, q_Listener_openMessages_62, q_Listener_openMessages_65, Option.bind_some, Option.toList_some, Option.toList_none, List.cons_append, List.nil_append, zq_rf_some, zq_rf_none, ↓reduceIte, zq_lt, zq_le, zq_eq, nI_add, zq_up_s, zq_up_o, zq_up_k, zq_b_eq0, Nat.reduceEqDiff, Nat.reduceLeDiff, Nat.reduceLT, Nat.reduceAdd, not_true_eq_false, not_false_eq_true, Nat.not_lt_zero, zq_on_lt, zq_os, false_or, or_false, or_self, Bool.false_eq_true, a4, a3, zx_n, q, at1, at2, hk, c1, c2, hs, zc_om, e1, ih]
theorem c_openMessages {d nx kx g : Nat} {sh : zq_S} {P : zq_P} {X : Nat → Nat → Nat} {I0 : zq_I} {k e : Nat} (hl : zc_li g sh P) (h : zc_ep g k sh P) (he : e ≤ 20) (hX : zc_lg X) (hm : zc_ms X k) : zq_C (d + 1) 55 [.ref (g + 13), .ref (g + k), .int (nI e)] sh (zx g X I0) P nx kx = some (none, sh, zx g (zc_om k e (X (k + 6) 1) 0 X) I0, P, nx, kx) := by
  have go := c_openMessages_go (d := d) (nx := nx) (kx := kx) (I0 := I0) hl h he (X (k + 6) 1) 0 X hX hm (Nat.zero_add _)
  simp (disch := first | assumption | omega | exact Nat.le_of_ble_eq_true rfl) only [q_Listener_openMessages, q_Listener_openMessages_0, q_Listener_openMessages_1, q_Listener_openMessages_3, q_Listener_openMessages_3n, q_Listener_openMessages_4, q_Listener_openMessages_7, q_Listener_openMessages_10, q_Listener_openMessages_13, q_Listener_openMessages_13n, q_Listener_openMessages_14, q_Listener_openMessages_14n, q_Listener_openMessages_15, q_Listener_openMessages_18, q_Listener_openMessages_19, q_Listener_openMessages_22, q_Listener_openMessages_25, q_Listener_openMessages_28, q_Listener_openMessages_28n, q_Listener_openMessages_29, q_Listener_openMessages_32, q_Listener_openMessages_33, q_Listener_openMessages_36, q_Listener_openMessages_39, q_Listener_openMessages_39n, q_Listener_openMessages_40, q_Listener_openMessages_41, q_Listener_openMessages_44, q_Listener_openMessages_47, q_Listener_openMessages_47n, q_Listener_openMessages_48, q_Listener_openMessages_48n, q_Listener_openMessages_49, q_Listener_openMessages_52, q_Listener_openMessages_53, q_Listener_openMessages_56, q_Listener_openMessages_59, q_Listener_openMessages_62, q_Listener_openMessages_65, Option.bind_some, Option.toList_some, Option.toList_none, List.cons_append, List.nil_append, zq_rf_some, zq_rf_none, ↓reduceIte, zq_lt, zq_le, zq_eq, nI_add, zq_up_s, zq_up_o, zq_up_k, zq_b_eq0, Nat.reduceEqDiff, Nat.reduceLeDiff, Nat.reduceLT, Nat.reduceAdd, not_true_eq_false, not_false_eq_true, Nat.not_lt_zero, zq_on_lt, zq_os, false_or, or_false, or_self, Bool.false_eq_true, go]
def zc_kk (X : (Nat → Nat → Nat)) (a b : Nat) : (Nat → Nat → Nat) := if X 14 a = 0 then X else zc_hk X b
theorem zc_kk_o {X : (Nat → Nat → Nat)} {k e a j : Nat} (h : 16 ≤ a ∨ a < 13) : zc_kk X k e a j = X a j := by
  unfold zc_kk
  split
  · rfl
  · exact zc_hk_o (by omega) (by omega)
theorem zc_lg.kk {X : (Nat → Nat → Nat)} (h : zc_lg X) {a b : Nat} (h1 : 1 ≤ b) (h2 : b ≤ 120) : zc_lg (zc_kk X a b) := by
  unfold zc_kk
  split
  · exact h
  · exact h.hk h1 h2
/-- an epoch's path: its committer's leaf node, the path's keys -/
def zc_pt (X : (Nat → Nat → Nat)) (k : Nat) : Prop := 8 ≤ X k 1 ∧ X k 1 < 16 ∧ 1 ≤ X (k + 2) (X k 1 / 2) ∧ X (k + 2) (X k 1 / 2) ≤ 120 ∧ 1 ≤ X (k + 2) (X k 1 / 4) ∧ X (k + 2) (X k 1 / 4) ≤ 120 ∧ 1 ≤ X (k + 2) 1 ∧ X (k + 2) 1 ≤ 120
theorem zc_pt.same {X Y : (Nat → Nat → Nat)} {k : Nat} (h : zc_pt X k) (hk : 45 ≤ k) (e : ∀ a j, 45 ≤ a → Y a j = X a j) : zc_pt Y k := by
  unfold zc_pt
  rw [e k _ hk, e _ _ (by omega), e _ _ (by omega), e _ _ (by omega)]
  exact h
def zc_cl (X : (Nat → Nat → Nat)) (k : Nat) : (Nat → Nat → Nat) := zc_kk (zc_kk X (X (k + 2) (X k 1 / 2)) (X (k + 2) (X k 1 / 4))) (X (k + 2) (X k 1 / 4)) (X (k + 2) 1)
theorem c_climb_s {d nx kx g : Nat} {sh : zq_S} {P : zq_P} {X : Nat → Nat → Nat} {I0 : zq_I} {k n : Nat} (hl : zc_li g sh P) (h : zc_ep g k sh P) (hX : zc_lg X) (hn : 2 ≤ n) (hn2 : n < 8) (h1 : 1 ≤ X (k + 2) n) (h2 : X (k + 2) n ≤ 120) (h3 : 1 ≤ X (k + 2) (n / 2)) (h4 : X (k + 2) (n / 2) ≤ 120) : zq_F (d + 2) 56 8 [some (.ref (g + 13)), some (.ref (g + k)), some (.int (nI n))] [] sh (zx g X I0) P nx kx = zq_F (d + 2) 56 8 [some (.ref (g + 13)), some (.ref (g + k)), some (.int (nI (n / 2)))] [] sh (zx g (zc_kk X (X (k + 2) n) (X (k + 2) (n / 2))) I0) P nx kx := by
  obtain ⟨a1, a2, a3, a4, a5, a6, a7, a8⟩ := id h
  have l1 := hl.1
  have a51 := a5.1
  have q : ¬ n ≤ 1 := by omega
  have ka := c_keyAt (d := d) (nx := nx) (kx := kx) (X := X) (I0 := I0) a5 (n := n) (by omega) (by omega)
  have kb := c_keyAt (d := d) (nx := nx) (kx := kx) (X := X) (I0 := I0) a5 (n := n / 2) (by omega) (by omega)
  have hk := c_hasKeyN (d := d + 1) (nx := nx) (kx := kx) (I0 := I0) hl hX.1 h1 h2
  have pa := m_parentOf (d := d + 1) (nx := nx) (kx := kx) (sh := sh) (I := zx g X I0) (P := P) n (by omega)
  by_cases c1 : X (k + 2) n = 0
  · omega
  by_cases c2 : X 14 (X (k + 2) n) = 0
  · rw [q_Listener_climbPath_8]
    simp (disch := first | assumption | omega | exact Nat.le_of_ble_eq_true rfl) only [q_Listener_climbPath_0, q_Listener_climbPath_0n, q_Listener_climbPath_1, q_Listener_climbPath_4, q_Listener_climbPath_7, q_Listener_climbPath_9, q_Listener_climbPath_10, q_Listener_climbPath_13, q_Listener_climbPath_13n, q_Listener_climbPath_14, q_Listener_climbPath_14n, q_Listener_climbPath_15, q_Listener_climbPath_18, q_Listener_climbPath_19, q_Listener_climbPath_22, q_Listener_climbPath_25, q_Listener_climbPath_28, q_Listener_climbPath_28n, q_Listener_climbPath_29, q_Listener_climbPath_29n, q_Listener_climbPath_30, q_Listener_climbPath_33, q_Listener_climbPath_34, q_Listener_climbPath_37, q_Listener_climbPath_40, q_Listener_climbPath_43, q_Listener_climbPath_44, q_Listener_climbPath_47, q_Listener_climbPath_48, q_Listener_climbPath_51, Option.bind_some, Option.toList_some, Option.toList_none, List.cons_append, List.nil_append, zq_rf_some, zq_rf_none, ↓reduceIte, zq_lt, zq_le, zq_eq, nI_add, zq_up_s, zq_up_o, zq_up_k, zq_b_eq0, Nat.reduceEqDiff, Nat.reduceLeDiff, Nat.reduceLT, Nat.reduceAdd, not_true_eq_false, not_false_eq_true, Nat.not_lt_zero, zq_on_lt, zq_os, false_or, or_false, or_self, Bool.false_eq_true, a2, q, ka, kb, hk, c2, pa, zc_kk]
  · have hs := c_hearKey (d := d + 1) (nx := nx) (kx := kx) (I0 := I0) hl hX.1 h3 h4
    have pb := m_parentOf (d := d + 1) (nx := nx) (kx := kx) (sh := sh) (I := zx g (zc_hk X (X (k + 2) (n / 2))) I0) (P := P) n (by omega)
    rw [q_Listener_climbPath_8]
    simp (disch := first | assumption | omega | exact Nat.le_of_ble_eq_true rfl) only [q_Listener_climbPath_0, q_Listener_climbPath_0n, q_Listener_climbPath_1, q_Listener_climbPath_4, q_Listener_climbPath_7, q_Listener_climbPath_9, q_Listener_climbPath_10, q_Listener_climbPath_13, q_Listener_climbPath_13n, q_Listener_climbPath_14, q_Listener_climbPath_14n, q_Listener_climbPath_15, q_Listener_climbPath_18, q_Listener_climbPath_19, q_Listener_climbPath_22, q_Listener_climbPath_25, q_Listener_climbPath_28, q_Listener_climbPath_28n, q_Listener_climbPath_29, q_Listener_climbPath_29n, q_Listener_climbPath_30, q_Listener_climbPath_33, q_Listener_climbPath_34, q_Listener_climbPath_37, q_Listener_climbPath_40, q_Listener_climbPath_43, q_Listener_climbPath_44, q_Listener_climbPath_47, q_Listener_climbPath_48, q_Listener_climbPath_51, Option.bind_some, Option.toList_some, Option.toList_none, List.cons_append, List.nil_append, zq_rf_some, zq_rf_none, ↓reduceIte, zq_lt, zq_le, zq_eq, nI_add, zq_up_s, zq_up_o, zq_up_k, zq_b_eq0, Nat.reduceEqDiff, Nat.reduceLeDiff, Nat.reduceLT, Nat.reduceAdd, not_true_eq_false, not_false_eq_true, Nat.not_lt_zero, zq_on_lt, zq_os, false_or, or_false, or_self, Bool.false_eq_true, a2, q, ka, kb, hk, c2, pa, pb, hs, zc_kk]
theorem c_climbPath {d nx kx g : Nat} {sh : zq_S} {P : zq_P} {X : Nat → Nat → Nat} {I0 : zq_I} {k : Nat} (hl : zc_li g sh P) (h : zc_ep g k sh P) (hX : zc_lg X) (hp : zc_pt X k) : zq_C (d + 2) 56 [.ref (g + 13), .ref (g + k)] sh (zx g X I0) P nx kx = some (none, sh, zx g (zc_cl X k) I0, P, nx, kx) := by
  obtain ⟨q1, q2, q3, q4, q5, q6, q7, q8⟩ := hp
  obtain ⟨a1, a2, a3, a4, a5, a6, a7, a8⟩ := id h
  have pa := m_parentOf (d := d + 1) (nx := nx) (kx := kx) (sh := sh) (I := zx g X I0) (P := P) (X k 1) (by omega)
  have e2 : X k 1 / 2 / 2 = X k 1 / 4 := by omega
  have e3 : X k 1 / 4 / 2 = 1 := by omega
  have s1 := c_climb_s (d := d) (nx := nx) (kx := kx) (I0 := I0) hl h hX (n := X k 1 / 2) (by omega) (by omega) q3 q4 (by rw [e2]; exact q5) (by rw [e2]; exact q6)
  rw [e2] at s1
  have o : ∀ j, zc_kk X (X (k + 2) (X k 1 / 2)) (X (k + 2) (X k 1 / 4)) (k + 2) j = X (k + 2) j := fun j => zc_kk_o (by omega)
  have s2 := c_climb_s (d := d) (nx := nx) (kx := kx) (I0 := I0) hl h (hX.kk (a := X (k + 2) (X k 1 / 2)) q5 q6) (n := X k 1 / 4) (by omega) (by omega) (by rw [o]; exact q5) (by rw [o]; exact q6) (by rw [e3, o]; exact q7) (by rw [e3, o]; exact q8)
  rw [e3, o, o] at s2
  have fin : zq_F (d + 2) 56 8 [some (.ref (g + 13)), some (.ref (g + k)), some (.int (nI 1))] [] sh (zx g (zc_cl X k) I0) P nx kx = some (none, sh, zx g (zc_cl X k) I0, P, nx, kx) := by
    rw [q_Listener_climbPath_8]
    simp (disch := first | assumption | omega | exact Nat.le_of_ble_eq_true rfl) only [q_Listener_climbPath_0, q_Listener_climbPath_0n, q_Listener_climbPath_1, q_Listener_climbPath_4, q_Listener_climbPath_7, q_Listener_climbPath_9, q_Listener_climbPath_10, q_Listener_climbPath_13, q_Listener_climbPath_13n, q_Listener_climbPath_14, q_Listener_climbPath_14n, q_Listener_climbPath_15, q_Listener_climbPath_18, q_Listener_climbPath_19, q_Listener_climbPath_22, q_Listener_climbPath_25, q_Listener_climbPath_28, q_Listener_climbPath_28n, q_Listener_climbPath_29, q_Listener_climbPath_29n, q_Listener_climbPath_30, q_Listener_climbPath_33, q_Listener_climbPath_34, q_Listener_climbPath_37, q_Listener_climbPath_40, q_Listener_climbPath_43, q_Listener_climbPath_44, q_Listener_climbPath_47, q_Listener_climbPath_48, q_Listener_climbPath_51, Option.bind_some, Option.toList_some, Option.toList_none, List.cons_append, List.nil_append, zq_rf_some, zq_rf_none, ↓reduceIte, zq_lt, zq_le, zq_eq, nI_add, zq_up_s, zq_up_o, zq_up_k, zq_b_eq0, Nat.reduceEqDiff, Nat.reduceLeDiff, Nat.reduceLT, Nat.reduceAdd, not_true_eq_false, not_false_eq_true, Nat.not_lt_zero, zq_on_lt, zq_os, false_or, or_false, or_self, Bool.false_eq_true, Nat.le_refl]
  simp (disch := first | assumption | omega | exact Nat.le_of_ble_eq_true rfl) only [q_Listener_climbPath, q_Listener_climbPath_0, q_Listener_climbPath_0n, q_Listener_climbPath_1, q_Listener_climbPath_4, q_Listener_climbPath_7, q_Listener_climbPath_9, q_Listener_climbPath_10, q_Listener_climbPath_13, q_Listener_climbPath_13n, q_Listener_climbPath_14, q_Listener_climbPath_14n, q_Listener_climbPath_15, q_Listener_climbPath_18, q_Listener_climbPath_19, q_Listener_climbPath_22, q_Listener_climbPath_25, q_Listener_climbPath_28, q_Listener_climbPath_28n, q_Listener_climbPath_29, q_Listener_climbPath_29n, q_Listener_climbPath_30, q_Listener_climbPath_33, q_Listener_climbPath_34, q_Listener_climbPath_37, q_Listener_climbPath_40, q_Listener_climbPath_43, q_Listener_climbPath_44, q_Listener_climbPath_47, q_Listener_climbPath_48, q_Listener_climbPath_51, Option.bind_some, Option.toList_some, Option.toList_none, List.cons_append, List.nil_append, zq_rf_some, zq_rf_none, ↓reduceIte, zq_lt, zq_le, zq_eq, nI_add, zq_up_s, zq_up_o, zq_up_k, zq_b_eq0, Nat.reduceEqDiff, Nat.reduceLeDiff, Nat.reduceLT, Nat.reduceAdd, not_true_eq_false, not_false_eq_true, Nat.not_lt_zero, zq_on_lt, zq_os, false_or, or_false, or_self, Bool.false_eq_true, zx_n, pa, s1, s2]
  exact fin
/-! one epoch followed -/
def zc_f2 (X : (Nat → Nat → Nat)) (k e : Nat) : (Nat → Nat → Nat) := if ¬ X 15 (e - 1) = 0 ∧ ¬ X 14 (X (k + 2) 1) = 0 then zc_hs X e else X
def zc_fo (X : (Nat → Nat → Nat)) (k e : Nat) : (Nat → Nat → Nat) := zc_f2 (zc_cl (zc_om k e (X (k + 6) 1) 0 X) k) k e
theorem zc_lg.om {k e : Nat} (he : e ≤ 20) (hk : 45 ≤ k) : ∀ (c i : Nat) (X : (Nat → Nat → Nat)), zc_lg X → zc_ms X k → i + c = X (k + 6) 1 → zc_lg (zc_om k e c i X)
  | 0, _, _, h, _, _ => h
  | c + 1, i, X, h, hm, hi => zc_lg.om he hk c (i + 1) _ (h.o1 he hm (by omega)) (hm.same hk fun a j ha => zc_o1_o (by omega)) (by rw [zc_o1_o (by omega)]; omega)
theorem zc_lg.cl {X : (Nat → Nat → Nat)} (h : zc_lg X) {k : Nat} (hp : zc_pt X k) : zc_lg (zc_cl X k) := by
  obtain ⟨q1, q2, q3, q4, q5, q6, q7, q8⟩ := hp
  exact (h.kk q5 q6).kk q7 q8
theorem zc_cl_o {X : (Nat → Nat → Nat)} {k a j : Nat} (h : 16 ≤ a ∨ a < 13) : zc_cl X k a j = X a j := by
  unfold zc_cl
  rw [zc_kk_o h, zc_kk_o h]
theorem zc_f2_o {X : (Nat → Nat → Nat)} {k e a j : Nat} (h : 16 ≤ a ∨ a < 13) : zc_f2 X k e a j = X a j := by
  unfold zc_f2
  split
  · exact zc_hs_o (by omega) (by omega)
  · rfl
theorem zc_fo_o {X : (Nat → Nat → Nat)} {k e a j : Nat} (h : 16 ≤ a ∨ a < 13) : zc_fo X k e a j = X a j := by
  unfold zc_fo
  rw [zc_f2_o h, zc_cl_o h, zc_om_o h]
theorem zc_lg.fo {X : (Nat → Nat → Nat)} (h : zc_lg X) {k e : Nat} (he : e ≤ 20) (hk : 45 ≤ k) (hm : zc_ms X k) (hp : zc_pt X k) : zc_lg (zc_fo X k e) := by
  have h1 := zc_lg.om he hk (X (k + 6) 1) 0 X h hm (Nat.zero_add _)
  have h2 := h1.cl (hp.same hk fun a j ha => zc_om_o (by omega) _ _ _)
  unfold zc_fo zc_f2
  split
  · exact h2.hs he
  · exact h2
theorem c_follow {d nx kx g : Nat} {sh : zq_S} {P : zq_P} {X : Nat → Nat → Nat} {I0 : zq_I} {k e : Nat} (hl : zc_li g sh P) (h : zc_ep g k sh P) (h1 : 1 ≤ e) (he : e ≤ 20) (hX : zc_lg X) (hm : zc_ms X k) (hp : zc_pt X k) : zq_C (d + 3) 54 [.ref (g + 13), .ref (g + k), .int (nI e)] sh (zx g X I0) P nx kx = some (none, sh, zx g (zc_fo X k e) I0, P, nx, kx) := by
  obtain ⟨a1, a2, a3, a4, a5, a6, a7, a8⟩ := id h
  have l1 := hl.1
  have a51 := a5.1
  have o1 := c_openMessages (d := d + 1) (nx := nx) (kx := kx) (I0 := I0) hl h he hX hm
  have g1 := zc_lg.om he a8 (X (k + 6) 1) 0 X hX hm (Nat.zero_add _)
  have hp1 := hp.same (Y := zc_om k e (X (k + 6) 1) 0 X) a8 fun a j ha => zc_om_o (by omega) _ _ _
  have o2 := c_climbPath (d := d) (nx := nx) (kx := kx) (I0 := I0) hl h g1 hp1
  have g2 := g1.cl hp1
  have hp2 := hp1.same (Y := zc_cl (zc_om k e (X (k + 6) 1) 0 X) k) a8 fun a j ha => zc_cl_o (by omega)
  unfold zc_fo
  generalize zc_cl (zc_om k e (X (k + 6) 1) 0 X) k = Y at o2 g2 hp2
  obtain ⟨q1, q2, q3, q4, q5, q6, q7, q8⟩ := hp2
  obtain ⟨e0, rfl⟩ : ∃ e0, e = e0 + 1 := ⟨e - 1, by omega⟩
  have s1 := c_hasSecretN (d := d + 2) (nx := nx) (kx := kx) (I0 := I0) hl g2.1 (k := e0) (by omega)
  have ka := c_keyAt (d := d + 1) (nx := nx) (kx := kx) (X := Y) (I0 := I0) a5 (n := 1) (by omega) (by omega)
  have hk := c_hasKeyN (d := d + 2) (nx := nx) (kx := kx) (I0 := I0) hl g2.1 q7 q8
  have hs := c_hearSecret (d := d + 2) (nx := nx) (kx := kx) (I0 := I0) hl g2.1 he
  by_cases c1 : Y 15 e0 = 0
  · simp (disch := first | assumption | omega | exact Nat.le_of_ble_eq_true rfl) only [q_Listener_follow, q_Listener_follow_0, q_Listener_follow_0n, q_Listener_follow_1, q_Listener_follow_1n, q_Listener_follow_2, q_Listener_follow_3, q_Listener_follow_6, q_Listener_follow_6n, q_Listener_follow_7, q_Listener_follow_7n, q_Listener_follow_8, q_Listener_follow_11, q_Listener_follow_11n, q_Listener_follow_12, q_Listener_follow_13, q_Listener_follow_14, q_Listener_follow_15, q_Listener_follow_18, q_Listener_follow_21, q_Listener_follow_21n, q_Listener_follow_22, q_Listener_follow_22n, q_Listener_follow_23, q_Listener_follow_26, q_Listener_follow_27, q_Listener_follow_30, q_Listener_follow_33, q_Listener_follow_36, q_Listener_follow_36n, q_Listener_follow_37, q_Listener_follow_38, q_Listener_follow_41, Option.bind_some, Option.toList_some, Option.toList_none, List.cons_append, List.nil_append, zq_rf_some, zq_rf_none, ↓reduceIte, zq_lt, zq_le, zq_eq, nI_add, zq_up_s, zq_up_o, zq_up_k, zq_b_eq0, Nat.reduceEqDiff, Nat.reduceLeDiff, Nat.reduceLT, Nat.reduceAdd, not_true_eq_false, not_false_eq_true, Nat.not_lt_zero, zq_on_lt, zq_os, false_or, or_false, or_self, Bool.false_eq_true, o1, o2, zq_pred, s1, c1, zc_f2, Nat.add_sub_cancel, false_and]
  · by_cases c2 : Y 14 (Y (k + 2) 1) = 0
    · simp (disch := first | assumption | omega | exact Nat.le_of_ble_eq_true rfl) only [q_Listener_follow, q_Listener_follow_0, q_Listener_follow_0n, q_Listener_follow_1, q_Listener_follow_1n, q_Listener_follow_2, q_Listener_follow_3, q_Listener_follow_6, q_Listener_follow_6n, q_Listener_follow_7, q_Listener_follow_7n, q_Listener_follow_8, q_Listener_follow_11, q_Listener_follow_11n, q_Listener_follow_12, q_Listener_follow_13, q_Listener_follow_14, q_Listener_follow_15, q_Listener_follow_18, q_Listener_follow_21, q_Listener_follow_21n, q_Listener_follow_22, q_Listener_follow_22n, q_Listener_follow_23, q_Listener_follow_26, q_Listener_follow_27, q_Listener_follow_30, q_Listener_follow_33, q_Listener_follow_36, q_Listener_follow_36n, q_Listener_follow_37, q_Listener_follow_38, q_Listener_follow_41, Option.bind_some, Option.toList_some, Option.toList_none, List.cons_append, List.nil_append, zq_rf_some, zq_rf_none, ↓reduceIte, zq_lt, zq_le, zq_eq, nI_add, zq_up_s, zq_up_o, zq_up_k, zq_b_eq0, Nat.reduceEqDiff, Nat.reduceLeDiff, Nat.reduceLT, Nat.reduceAdd, not_true_eq_false, not_false_eq_true, Nat.not_lt_zero, zq_on_lt, zq_os, false_or, or_false, or_self, Bool.false_eq_true, o1, o2, zq_pred, s1, c1, a2, ka, hk, c2, zc_f2, Nat.add_sub_cancel, and_false]
    · simp (disch := first | assumption | omega | exact Nat.le_of_ble_eq_true rfl) only [q_Listener_follow, q_Listener_follow_0, q_Listener_follow_0n, q_Listener_follow_1, q_Listener_follow_1n, q_Listener_follow_2, q_Listener_follow_3, q_Listener_follow_6, q_Listener_follow_6n, q_Listener_follow_7, q_Listener_follow_7n, q_Listener_follow_8, q_Listener_follow_11, q_Listener_follow_11n, q_Listener_follow_12, q_Listener_follow_13, q_Listener_follow_14, q_Listener_follow_15, q_Listener_follow_18, q_Listener_follow_21, q_Listener_follow_21n, q_Listener_follow_22, q_Listener_follow_22n, q_Listener_follow_23, q_Listener_follow_26, q_Listener_follow_27, q_Listener_follow_30, q_Listener_follow_33, q_Listener_follow_36, q_Listener_follow_36n, q_Listener_follow_37, q_Listener_follow_38, q_Listener_follow_41, Option.bind_some, Option.toList_some, Option.toList_none, List.cons_append, List.nil_append, zq_rf_some, zq_rf_none, ↓reduceIte, zq_lt, zq_le, zq_eq, nI_add, zq_up_s, zq_up_o, zq_up_k, zq_b_eq0, Nat.reduceEqDiff, Nat.reduceLeDiff, Nat.reduceLT, Nat.reduceAdd, not_true_eq_false, not_false_eq_true, Nat.not_lt_zero, zq_on_lt, zq_os, false_or, or_false, or_self, Bool.false_eq_true, o1, o2, zq_pred, s1, c1, a2, ka, hk, c2, hs, zc_f2, Nat.add_sub_cancel, and_self]
