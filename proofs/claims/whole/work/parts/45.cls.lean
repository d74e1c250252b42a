/-! alike but for the two rows that are used again and again -/
def zc_eq (X Y : (Nat → Nat → Nat)) : Prop := ∀ a j, a < 22 ∨ 26 ≤ a → Y a j = X a j
theorem zc_eq.rf {X : (Nat → Nat → Nat)} : zc_eq X X := fun _ _ _ => rfl
theorem zc_eq.tr {X Y Z : (Nat → Nat → Nat)} (h : zc_eq X Y) (i : zc_eq Y Z) : zc_eq X Z := fun a j q => (i a j q).trans (h a j q)
theorem zc_eq.up {X Y : (Nat → Nat → Nat)} (h : zc_eq X Y) (k j v : Nat) : zc_eq (zq_up X k j v) (zq_up Y k j v) := by
  intro a i q
  unfold zq_up
  split
  · rfl
  · exact h a i q
theorem zc_eq.ap {X Y : (Nat → Nat → Nat)} (h : zc_eq X Y) {k len x : Nat} (hk : 45 ≤ k) : zc_eq (zc_ap X k len x) (zc_ap Y k len x) := by
  unfold zc_ap
  rw [h k 1 (by omega)]
  split
  · exact (h.up _ _ _).up _ _ _
  · exact h
theorem zc_eq.sd {X Y : (Nat → Nat → Nat)} (h : zc_eq X Y) {k lk ct : Nat} (hk : 45 ≤ k) : zc_eq (zc_sd X k lk ct) (zc_sd Y k lk ct) := (h.ap (by omega)).ap (by omega)
def zc_sm (k : Nat) : (Nat → Nat → Nat) → List (Nat × Nat) → (Nat → Nat → Nat)
  | X, [] => X
  | X, q :: ms => zc_sm k (zc_sd X k q.2 q.1) ms
theorem zc_eq.sm {k : Nat} (hk : 45 ≤ k) : ∀ (ms : List (Nat × Nat)) {X Y : (Nat → Nat → Nat)}, zc_eq X Y → zc_eq (zc_sm k X ms) (zc_sm k Y ms)
  | [], _, _, h => h
  | _ :: ms, _, _, h => zc_eq.sm hk ms (h.sd hk)
theorem zc_sm_app {k : Nat} : ∀ (ms ns : List (Nat × Nat)) (X : (Nat → Nat → Nat)), zc_sm k X (ms ++ ns) = zc_sm k (zc_sm k X ms) ns
  | [], _, _ => rfl
  | _ :: ms, ns, _ => zc_sm_app ms ns _
theorem zc_sd_o {X : (Nat → Nat → Nat)} {k lk ct a j : Nat} (h : a < k + 4 ∨ k + 8 ≤ a) : zc_sd X k lk ct a j = X a j := by
  unfold zc_sd
  rw [zc_ap_o (by omega) (by omega), zc_ap_o (by omega) (by omega)]
theorem zc_sm_o {k a j : Nat} (h : a < k + 4 ∨ k + 8 ≤ a) : ∀ (ms : List (Nat × Nat)) (X : (Nat → Nat → Nat)), zc_sm k X ms a j = X a j
  | [], _ => rfl
  | q :: ms, X => by rw [zc_sm, zc_sm_o h ms, zc_sd_o h]
theorem zc_sm_bd {k : Nat} : ∀ (ms : List (Nat × Nat)) (X : (Nat → Nat → Nat)), zr_bd X → (∀ q ∈ ms, q.1 < 65536 ∧ q.2 < 65536) → zr_bd (zc_sm k X ms)
  | [], _, h, _ => h
  | q :: ms, X, h, hq => zc_sm_bd ms _ (zc_sd_bd h (hq q List.mem_cons_self).2 (hq q List.mem_cons_self).1) (fun r hr => hq r (List.mem_cons_of_mem _ hr))
theorem m_siblingOf {d nx kx : Nat} {sh : zq_S} {I : zq_I} {P : zq_P} (n : Nat) : zq_C d 24 [.int (nI n)] sh I P nx kx = some (some (.int (nI (n ^^^ 1))), sh, I, P, nx, kx) := by
  simp (disch := first | assumption | omega | exact Nat.le_of_ble_eq_true rfl) only [q_G_siblingOf, q_G_siblingOf_0, q_G_siblingOf_1, q_G_siblingOf_2, q_G_siblingOf_3, Option.bind_some, Option.toList_some, Option.toList_none, List.cons_append, List.nil_append, zq_rf_some, zq_rf_none, ↓reduceIte, zq_lt, zq_le, zq_eq, nI_add, zq_up_s, zq_up_o, zq_up_k, zq_b_eq0, Nat.reduceEqDiff, Nat.reduceLeDiff, Nat.reduceLT, Nat.reduceAdd, not_true_eq_false, not_false_eq_true, Nat.not_lt_zero, zq_on_lt, zq_os, false_or, or_false, or_self, Bool.false_eq_true, zq_xor]
theorem zr_rl_ge {K U : Nat → Nat} : ∀ (c m : Nat), 1 ≤ m → ∀ x ∈ zr_rl K U c m, 1 ≤ x
  | 0, m, hm, x, hx => by cases hx
  | c + 1, m, hm, x, hx => by
    unfold zr_rl at hx
    split at hx
    · split at hx
      · rcases List.mem_append.mp hx with h | h
        · exact zr_rl_ge c _ (by omega) x h
        · exact zr_rl_ge c _ (by omega) x h
      · cases hx
    · rcases List.mem_cons.mp hx with rfl | h
      · exact hm
      · have key : ∀ (c l : Nat), ∀ x ∈ zr_ob (U m) c l, 1 ≤ x := by
          intro c
          induction c with
          | zero => intro l x hx; cases hx
          | succ c ih =>
            intro l x hx
            unfold zr_ob at hx
            split at hx
            · exact ih _ x hx
            · rcases List.mem_cons.mp hx with rfl | h
              · omega
              · exact ih _ x h
        exact key 8 0 x h
theorem zr_re_ge {K U : Nat → Nat} {m : Nat} (hm : 1 ≤ m) : ∀ x ∈ zr_re K U m, 1 ≤ x := zr_rl_ge _ _ hm
theorem c_sendTo_in {d nx kx g : Nat} {sh : zq_S} {P : zq_P} {I0 : zq_I} {ne k b pk n : Nat} (hG : zc_lay g ne sh P) (h : zc_ep g k sh P) (K : Nat → Nat) (ad : Nat → Bool) (hpk : pk < 65536) (hn : n ≤ 15) : ∀ (ys : List Nat) (i : Nat) (X : (Nat → Nat → Nat)) (v5 : Option Value), zr_bd X → (∀ x, X (k + 2) x = K x) → (∀ x, x < 16 → ((8 ≤ x ∧ ¬ zq_bt (X k 5) (x - 8) = 0) ↔ ad x = true)) → (∀ y ∈ ys, 1 ≤ y ∧ y < 16) → (∀ j v, ys[j]? = some v → X 23 (i + j) = v) → i + ys.length = n → X 22 1 = n →
    ∃ v5', zq_F (d + 2) 35 47 [some (.ref g), some (.ref (g + k)), some (.int (nI b)), some (.int (nI pk)), some (.int (nI i)), v5] [] sh (zx g X I0) P nx kx = zq_F (d + 2) 35 102 [some (.ref g), some (.ref (g + k)), some (.int (nI b)), some (.int (nI pk)), some (.int (nI n)), v5'] [] sh (zx g (zc_sm k X (zr_lm K ad pk ys)) I0) P nx kx
  | [], i, X, v5, hX, hK, ha, h16, hl, hi, h22 => by
    have h2 : i = n := by simp at hi; omega
    subst h2
    have w := hG
    obtain ⟨u0, r0, r1, r2, r3, r4, r5, r6, r7, v1, v2, vp, w1, w2, li, w16, w18, w20, w22, w24, ep⟩ := id hG
    have c1 := w22.1
    have z : X 22 1 ≤ i := by omega
    refine ⟨v5, ?_⟩
    rw [q_G_sendToGroup_47]
    simp (disch := first | assumption | omega | exact Nat.le_of_ble_eq_true rfl) only [q_G_sendToGroup_49, q_G_sendToGroup_49n, q_G_sendToGroup_50, q_G_sendToGroup_53, q_G_sendToGroup_56, q_G_sendToGroup_59, q_G_sendToGroup_59n, q_G_sendToGroup_60, q_G_sendToGroup_63, q_G_sendToGroup_65, q_G_sendToGroup_68, q_G_sendToGroup_70, q_G_sendToGroup_70n, q_G_sendToGroup_71, q_G_sendToGroup_73, q_G_sendToGroup_75, q_G_sendToGroup_76, q_G_sendToGroup_79, q_G_sendToGroup_82, q_G_sendToGroup_82n, q_G_sendToGroup_83, q_G_sendToGroup_83n, q_G_sendToGroup_84, q_G_sendToGroup_87, q_G_sendToGroup_89, q_G_sendToGroup_92, q_G_sendToGroup_93, q_G_sendToGroup_96, q_G_sendToGroup_99, Option.bind_some, Option.toList_some, Option.toList_none, List.cons_append, List.nil_append, zq_rf_some, zq_rf_none, ↓reduceIte, zq_lt, zq_le, zq_eq, nI_add, zq_up_s, zq_up_o, zq_up_k, zq_b_eq0, Nat.reduceEqDiff, Nat.reduceLeDiff, Nat.reduceLT, Nat.reduceAdd, not_true_eq_false, not_false_eq_true, Nat.not_lt_zero, zq_on_lt, zq_os, false_or, or_false, or_self, Bool.false_eq_true, r6, zx_n, h22, Nat.le_refl, zr_lm, List.filter_nil, List.map_nil, zc_sm]
  | y :: ys, i, X, v5, hX, hK, ha, h16, hl, hi, h22 => by
    rw [List.length_cons] at hi
    have z : ¬ n ≤ i := by omega
    obtain ⟨hy1, hy⟩ := h16 y List.mem_cons_self
    have e23 : X 23 i = y := by have := hl 0 y rfl; rwa [Nat.add_zero] at this
    have hl' : ∀ j v, ys[j]? = some v → X 23 (i + 1 + j) = v := fun j v hv => by
      have := hl (j + 1) v (by simpa using hv)
      rw [← this]; congr 1; omega
    obtain ⟨a1, a2, a3, a4, a5, a6, a7, a8⟩ := id h
    have hA := c_hasAdded (d := d + 1) (nx := nx) (kx := kx) (I0 := I0) h hX hy
    rw [zq_b_congr (ha y hy)] at hA
    have a51 := a5.1
    have at1 : zq_C (d + 1) 62 [.ref (g + 22), .int (nI i)] sh (zx g X I0) P nx kx = some (some (.int (nI y)), sh, zx g X I0, P, nx, kx) := by
      rw [c_at hG.2.2.2.2.2.2.2.2.2.2.2.2.2.2.2.2.2.2.1 hX (by omega) (by omega), e23]
    by_cases c1 : ad y = true
    · have e1 : zr_lm K ad pk (y :: ys) = zr_lm K ad pk ys := by simp [zr_lm, c1]
      rw [e1]
      obtain ⟨v', ih⟩ := c_sendTo_in (d := d) (nx := nx) (kx := kx) (I0 := I0) (b := b) hG h K ad hpk hn ys (i + 1) X (some (.int (nI y))) hX hK ha (fun x hx => h16 x (List.mem_cons_of_mem _ hx)) hl' (by omega) h22
      refine ⟨v', ?_⟩
      obtain ⟨u0, r0, r1, r2, r3, r4, r5, r6, r7, v1, v2, vp, w1, w2, li, w16, w18, w20, w22, w24, ep⟩ := id hG
      have t22 := w22.1
      rw [q_G_sendToGroup_47]
      simp (disch := first | assumption | omega | exact Nat.le_of_ble_eq_true rfl) only [q_G_sendToGroup_49, q_G_sendToGroup_49n, q_G_sendToGroup_50, q_G_sendToGroup_53, q_G_sendToGroup_56, q_G_sendToGroup_59, q_G_sendToGroup_59n, q_G_sendToGroup_60, q_G_sendToGroup_63, q_G_sendToGroup_65, q_G_sendToGroup_68, q_G_sendToGroup_70, q_G_sendToGroup_70n, q_G_sendToGroup_71, q_G_sendToGroup_73, q_G_sendToGroup_75, q_G_sendToGroup_76, q_G_sendToGroup_79, q_G_sendToGroup_82, q_G_sendToGroup_82n, q_G_sendToGroup_83, q_G_sendToGroup_83n, q_G_sendToGroup_84, q_G_sendToGroup_87, q_G_sendToGroup_89, q_G_sendToGroup_92, q_G_sendToGroup_93, q_G_sendToGroup_96, q_G_sendToGroup_99, Option.bind_some, Option.toList_some, Option.toList_none, List.cons_append, List.nil_append, zq_rf_some, zq_rf_none, ↓reduceIte, zq_lt, zq_le, zq_eq, nI_add, zq_up_s, zq_up_o, zq_up_k, zq_b_eq0, Nat.reduceEqDiff, Nat.reduceLeDiff, Nat.reduceLT, Nat.reduceAdd, not_true_eq_false, not_false_eq_true, Nat.not_lt_zero, zq_on_lt, zq_os, false_or, or_false, or_self, Bool.false_eq_true, r6, zx_n, h22, z, at1, hA, c1, ih]
    · have e1 : zr_lm K ad pk (y :: ys) = (pk, K y) :: zr_lm K ad pk ys := by simp [zr_lm, c1]
      rw [e1]
      have bK : K y < 65536 := by rw [← hK y]; exact hX _ _
      have ka := c_keyAt (d := d) (nx := nx) (kx := kx) (X := X) (I0 := I0) a5 (n := y) hy1 (by omega)
      rw [hK y] at ka
      have sd := c_send (d := d) (nx := nx) (kx := kx) (I0 := I0) (ct := pk) h hX bK
      obtain ⟨v', ih⟩ := c_sendTo_in (d := d) (nx := nx) (kx := kx) (I0 := I0) (b := b) hG h K ad hpk hn ys (i + 1) (zc_sd X k (K y) pk) (some (.int (nI y))) (zc_sd_bd hX bK hpk) (fun x => by rw [zc_sd_o (by omega)]; exact hK x) (fun x hx => by rw [zc_sd_o (by omega)]; exact ha x hx) (fun x hx => h16 x (List.mem_cons_of_mem _ hx)) (fun j v hv => by rw [zc_sd_o (by omega)]; exact hl' j v hv) (by omega) (by rw [zc_sd_o (by omega)]; exact h22)
      refine ⟨v', ?_⟩
      obtain ⟨u0, r0, r1, r2, r3, r4, r5, r6, r7, v1, v2, vp, w1, w2, li, w16, w18, w20, w22, w24, ep⟩ := id hG
      have t22 := w22.1
      rw [q_G_sendToGroup_47]
      simp (disch := first | assumption | omega | exact Nat.le_of_ble_eq_true rfl) only [q_G_sendToGroup_49, q_G_sendToGroup_49n, q_G_sendToGroup_50, q_G_sendToGroup_53, q_G_sendToGroup_56, q_G_sendToGroup_59, q_G_sendToGroup_59n, q_G_sendToGroup_60, q_G_sendToGroup_63, q_G_sendToGroup_65, q_G_sendToGroup_68, q_G_sendToGroup_70, q_G_sendToGroup_70n, q_G_sendToGroup_71, q_G_sendToGroup_73, q_G_sendToGroup_75, q_G_sendToGroup_76, q_G_sendToGroup_79, q_G_sendToGroup_82, q_G_sendToGroup_82n, q_G_sendToGroup_83, q_G_sendToGroup_83n, q_G_sendToGroup_84, q_G_sendToGroup_87, q_G_sendToGroup_89, q_G_sendToGroup_92, q_G_sendToGroup_93, q_G_sendToGroup_96, q_G_sendToGroup_99, Option.bind_some, Option.toList_some, Option.toList_none, List.cons_append, List.nil_append, zq_rf_some, zq_rf_none, ↓reduceIte, zq_lt, zq_le, zq_eq, nI_add, zq_up_s, zq_up_o, zq_up_k, zq_b_eq0, Nat.reduceEqDiff, Nat.reduceLeDiff, Nat.reduceLT, Nat.reduceAdd, not_true_eq_false, not_false_eq_true, Nat.not_lt_zero, zq_on_lt, zq_os, false_or, or_false, or_self, Bool.false_eq_true, r6, zx_n, h22, z, at1, hA, c1, a2, ka, sd, ih, zc_sm]
def zc_pm (K U : Nat → Nat) (ad : Nat → Bool) : Nat → Nat → List (Nat × Nat)
  | 0, _ => []
  | c + 1, b => if b ≤ 1 then [] else zr_lm K ad (K (b / 2)) (zr_re K U (b ^^^ 1)) ++ zc_pm K U ad c (b / 2)
theorem zr_lm_b {K : Nat → Nat} {ad : Nat → Bool} {pk : Nat} {xs : List Nat} (h1 : pk < 65536) (h2 : ∀ x, K x < 65536) : ∀ q ∈ zr_lm K ad pk xs, q.1 < 65536 ∧ q.2 < 65536 := by
  intro q hq
  unfold zr_lm at hq
  obtain ⟨x, hx, rfl⟩ := List.mem_map.mp hq
  exact ⟨h1, h2 x⟩
theorem c_sendTo_out {d nx kx g : Nat} {sh : zq_S} {P : zq_P} {I0 : zq_I} {ne k : Nat} (hG : zc_lay g ne sh P) (h : zc_ep g k sh P) (K U : Nat → Nat) (ad : Nat → Bool) (hre : ∀ m, 1 ≤ m → m < 16 → (zr_re K U m).length ≤ 15) : ∀ (c b : Nat) (X : (Nat → Nat → Nat)) (v3 v4 v5 : Option Value), zr_bd X → (∀ x, X (k + 2) x = K x) → (∀ x, X (k + 3) x = U x) → (∀ x, x < 16 → ((8 ≤ x ∧ ¬ zq_bt (X k 5) (x - 8) = 0) ↔ ad x = true)) → b < 2 ^ c → b < 16 →
    ∃ X', zq_F (d + 8) 35 5 [some (.ref g), some (.ref (g + k)), some (.int (nI b)), v3, v4, v5] [] sh (zx g X I0) P nx kx = some (none, sh, zx g X' I0, P, nx, kx) ∧ zc_eq (zc_sm k X (zc_pm K U ad c b)) X' ∧ zr_bd X'
  | 0, b, X, v3, v4, v5, hX, hK, hU, ha, hb, hb2 => by
    have z : b ≤ 1 := by omega
    refine ⟨X, ?_, zc_eq.rf, hX⟩
    rw [q_G_sendToGroup_5]
    simp (disch := first | assumption | omega | exact Nat.le_of_ble_eq_true rfl) only [q_G_sendToGroup_0, q_G_sendToGroup_0n, q_G_sendToGroup_1, q_G_sendToGroup_4, q_G_sendToGroup_6, q_G_sendToGroup_7, q_G_sendToGroup_10, q_G_sendToGroup_10n, q_G_sendToGroup_11, q_G_sendToGroup_14, q_G_sendToGroup_15, q_G_sendToGroup_18, q_G_sendToGroup_21, q_G_sendToGroup_22, q_G_sendToGroup_22n, q_G_sendToGroup_23, q_G_sendToGroup_26, q_G_sendToGroup_29, q_G_sendToGroup_29n, q_G_sendToGroup_30, q_G_sendToGroup_33, q_G_sendToGroup_34, q_G_sendToGroup_37, q_G_sendToGroup_37n, q_G_sendToGroup_38, q_G_sendToGroup_41, q_G_sendToGroup_44, q_G_sendToGroup_45, q_G_sendToGroup_49, q_G_sendToGroup_49n, q_G_sendToGroup_50, q_G_sendToGroup_53, q_G_sendToGroup_56, q_G_sendToGroup_59, q_G_sendToGroup_59n, q_G_sendToGroup_60, q_G_sendToGroup_63, q_G_sendToGroup_65, q_G_sendToGroup_68, q_G_sendToGroup_70, q_G_sendToGroup_70n, q_G_sendToGroup_71, q_G_sendToGroup_73, q_G_sendToGroup_75, q_G_sendToGroup_76, q_G_sendToGroup_79, q_G_sendToGroup_82, q_G_sendToGroup_82n, q_G_sendToGroup_83, q_G_sendToGroup_83n, q_G_sendToGroup_84, q_G_sendToGroup_87, q_G_sendToGroup_89, q_G_sendToGroup_92, q_G_sendToGroup_93, q_G_sendToGroup_96, q_G_sendToGroup_99, q_G_sendToGroup_102, q_G_sendToGroup_103, q_G_sendToGroup_106, q_G_sendToGroup_107, q_G_sendToGroup_110, Option.bind_some, Option.toList_some, Option.toList_none, List.cons_append, List.nil_append, zq_rf_some, zq_rf_none, ↓reduceIte, zq_lt, zq_le, zq_eq, nI_add, zq_up_s, zq_up_o, zq_up_k, zq_b_eq0, Nat.reduceEqDiff, Nat.reduceLeDiff, Nat.reduceLT, Nat.reduceAdd, not_true_eq_false, not_false_eq_true, Nat.not_lt_zero, zq_on_lt, zq_os, false_or, or_false, or_self, Bool.false_eq_true, z]
  | c + 1, b, X, v3, v4, v5, hX, hK, hU, ha, hb, hb2 => by
    by_cases z : b ≤ 1
    · refine ⟨X, ?_, by rw [zc_pm, if_pos z]; exact zc_eq.rf, hX⟩
      rw [q_G_sendToGroup_5]
      simp (disch := first | assumption | omega | exact Nat.le_of_ble_eq_true rfl) only [q_G_sendToGroup_0, q_G_sendToGroup_0n, q_G_sendToGroup_1, q_G_sendToGroup_4, q_G_sendToGroup_6, q_G_sendToGroup_7, q_G_sendToGroup_10, q_G_sendToGroup_10n, q_G_sendToGroup_11, q_G_sendToGroup_14, q_G_sendToGroup_15, q_G_sendToGroup_18, q_G_sendToGroup_21, q_G_sendToGroup_22, q_G_sendToGroup_22n, q_G_sendToGroup_23, q_G_sendToGroup_26, q_G_sendToGroup_29, q_G_sendToGroup_29n, q_G_sendToGroup_30, q_G_sendToGroup_33, q_G_sendToGroup_34, q_G_sendToGroup_37, q_G_sendToGroup_37n, q_G_sendToGroup_38, q_G_sendToGroup_41, q_G_sendToGroup_44, q_G_sendToGroup_45, q_G_sendToGroup_49, q_G_sendToGroup_49n, q_G_sendToGroup_50, q_G_sendToGroup_53, q_G_sendToGroup_56, q_G_sendToGroup_59, q_G_sendToGroup_59n, q_G_sendToGroup_60, q_G_sendToGroup_63, q_G_sendToGroup_65, q_G_sendToGroup_68, q_G_sendToGroup_70, q_G_sendToGroup_70n, q_G_sendToGroup_71, q_G_sendToGroup_73, q_G_sendToGroup_75, q_G_sendToGroup_76, q_G_sendToGroup_79, q_G_sendToGroup_82, q_G_sendToGroup_82n, q_G_sendToGroup_83, q_G_sendToGroup_83n, q_G_sendToGroup_84, q_G_sendToGroup_87, q_G_sendToGroup_89, q_G_sendToGroup_92, q_G_sendToGroup_93, q_G_sendToGroup_96, q_G_sendToGroup_99, q_G_sendToGroup_102, q_G_sendToGroup_103, q_G_sendToGroup_106, q_G_sendToGroup_107, q_G_sendToGroup_110, Option.bind_some, Option.toList_some, Option.toList_none, List.cons_append, List.nil_append, zq_rf_some, zq_rf_none, ↓reduceIte, zq_lt, zq_le, zq_eq, nI_add, zq_up_s, zq_up_o, zq_up_k, zq_b_eq0, Nat.reduceEqDiff, Nat.reduceLeDiff, Nat.reduceLT, Nat.reduceAdd, not_true_eq_false, not_false_eq_true, Nat.not_lt_zero, zq_on_lt, zq_os, false_or, or_false, or_self, Bool.false_eq_true, z]
    · obtain ⟨x1, x2⟩ := zr_xor1 b hb2 (by omega)
      obtain ⟨a1, a2, a3, a4, a5, a6, a7, a8⟩ := id h
      have hlen := hre _ x1 x2
      have w22 := hG.2.2.2.2.2.2.2.2.2.2.2.2.2.2.2.2.2.2.1
      have bK : ∀ x, K x < 65536 := fun x => by rw [← hK x]; exact hX _ _
      have hX1 : zr_bd (zq_up X 22 1 0) := hX.up (by decide)
      have n1 : zq_up X 22 1 0 22 1 = 0 := zq_up_s
      have re := c_resolve (d := d) (nx := nx) (kx := kx) (I0 := I0) a5 w22 (by decide) hX1 x1 (show b ^^^ 1 ≤ 15 by omega)
      have eK : zq_up X 22 1 0 (k + 1 + 1) = K := by
        funext x
        rw [zq_up_o (by omega)]
        exact hK x
      have eU : zq_up X 22 1 0 (k + 1 + 2) = U := by
        funext x
        rw [zq_up_o (by omega)]
        exact hU x
      rw [eK, eU] at re
      have hX2 : zr_bd (zc_al 22 15 (zr_re K U (b ^^^ 1)) (zq_up X 22 1 0)) := zc_al_bd (by decide) _ _ hX1 (fun x hx => Nat.lt_trans (zr_re_lt x2 x hx) (by decide))
      have o2 : ∀ a j, a < 22 ∨ 26 ≤ a → zc_al 22 15 (zr_re K U (b ^^^ 1)) (zq_up X 22 1 0) a j = X a j := fun a j q => by rw [zc_al_o (by omega) (by omega), zq_up_o (by omega)]
      obtain ⟨v', hin⟩ := c_sendTo_in (d := d + 6) (nx := nx) (kx := kx) (I0 := I0) (b := b) hG h K ad (bK (b / 2)) hlen (zr_re K U (b ^^^ 1)) 0 (zc_al 22 15 (zr_re K U (b ^^^ 1)) (zq_up X 22 1 0)) v5 hX2 (fun x => by rw [o2 _ _ (by omega)]; exact hK x) (fun x hx => by rw [o2 _ _ (by omega)]; exact ha x hx) (fun y hy => ⟨zr_re_ge x1 y hy, zr_re_lt x2 y hy⟩) (fun j v hv => by
        have := zc_al_v (q := 22) (len := 15) (zr_re K U (b ^^^ 1)) (zq_up X 22 1 0) j v (by rw [n1]; omega) hv
        rw [n1] at this
        exact this) (Nat.zero_add _) (by rw [zc_al_n _ _ (by rw [n1]; omega), n1, Nat.zero_add])
      have hX3 : zr_bd (zc_sm k (zc_al 22 15 (zr_re K U (b ^^^ 1)) (zq_up X 22 1 0)) (zr_lm K ad (K (b / 2)) (zr_re K U (b ^^^ 1)))) := zc_sm_bd _ _ hX2 (zr_lm_b (bK _) bK)
      have o3 : ∀ a j, a < 22 ∨ 26 ≤ a → a < k + 4 → zc_sm k (zc_al 22 15 (zr_re K U (b ^^^ 1)) (zq_up X 22 1 0)) (zr_lm K ad (K (b / 2)) (zr_re K U (b ^^^ 1))) a j = X a j := fun a j q q2 => by rw [zc_sm_o (by omega), o2 _ _ q]
      obtain ⟨X', f1, f2, f3⟩ := c_sendTo_out (d := d) (nx := nx) (kx := kx) (I0 := I0) hG h K U ad hre c (b / 2) _ (some (.int (nI (K (b / 2))))) (some (.int (nI (zr_re K U (b ^^^ 1)).length))) v' hX3 (fun x => by rw [o3 _ _ (by omega) (by omega)]; exact hK x) (fun x => by rw [o3 _ _ (by omega) (by omega)]; exact hU x) (fun x hx => by rw [o3 _ _ (by omega) (by omega)]; exact ha x hx) (by rw [Nat.pow_succ] at hb; omega) (by omega)
      refine ⟨X', ?_, ?_, f3⟩
      · have pa := m_parentOf (d := d + 7) (nx := nx) (kx := kx) (sh := sh) (I := zx g X I0) (P := P) b (by omega)
        have ka := c_keyAt (d := d + 6) (nx := nx) (kx := kx) (X := X) (I0 := I0) a5 (n := b / 2) (by omega) (by omega)
        rw [hK] at ka
        have cl := c_clear (d := d + 7) (nx := nx) (kx := kx) (X := X) (I0 := I0) w22
        have si := m_siblingOf (d := d + 7) (nx := nx) (kx := kx) (sh := sh) (I := zx g (zq_up X 22 1 0) I0) (P := P) b
        have pb := m_parentOf (d := d + 7) (nx := nx) (kx := kx) (sh := sh) (I := zx g (zc_sm k (zc_al 22 15 (zr_re K U (b ^^^ 1)) (zq_up X 22 1 0)) (zr_lm K ad (K (b / 2)) (zr_re K U (b ^^^ 1)))) I0) (P := P) b (by omega)
        have a51 := a5.1
        have t22 := w22.1
        have u0 := hG.1
        have r6 := hG.2.2.2.2.2.2.2.1
        rw [q_G_sendToGroup_5]
        simp (disch := first | assumption | omega | exact Nat.le_of_ble_eq_true rfl) only [q_G_sendToGroup_0, q_G_sendToGroup_0n, q_G_sendToGroup_1, q_G_sendToGroup_4, q_G_sendToGroup_6, q_G_sendToGroup_7, q_G_sendToGroup_10, q_G_sendToGroup_10n, q_G_sendToGroup_11, q_G_sendToGroup_14, q_G_sendToGroup_15, q_G_sendToGroup_18, q_G_sendToGroup_21, q_G_sendToGroup_22, q_G_sendToGroup_22n, q_G_sendToGroup_23, q_G_sendToGroup_26, q_G_sendToGroup_29, q_G_sendToGroup_29n, q_G_sendToGroup_30, q_G_sendToGroup_33, q_G_sendToGroup_34, q_G_sendToGroup_37, q_G_sendToGroup_37n, q_G_sendToGroup_38, q_G_sendToGroup_41, q_G_sendToGroup_44, q_G_sendToGroup_45, q_G_sendToGroup_49, q_G_sendToGroup_49n, q_G_sendToGroup_50, q_G_sendToGroup_53, q_G_sendToGroup_56, q_G_sendToGroup_59, q_G_sendToGroup_59n, q_G_sendToGroup_60, q_G_sendToGroup_63, q_G_sendToGroup_65, q_G_sendToGroup_68, q_G_sendToGroup_70, q_G_sendToGroup_70n, q_G_sendToGroup_71, q_G_sendToGroup_73, q_G_sendToGroup_75, q_G_sendToGroup_76, q_G_sendToGroup_79, q_G_sendToGroup_82, q_G_sendToGroup_82n, q_G_sendToGroup_83, q_G_sendToGroup_83n, q_G_sendToGroup_84, q_G_sendToGroup_87, q_G_sendToGroup_89, q_G_sendToGroup_92, q_G_sendToGroup_93, q_G_sendToGroup_96, q_G_sendToGroup_99, q_G_sendToGroup_102, q_G_sendToGroup_103, q_G_sendToGroup_106, q_G_sendToGroup_107, q_G_sendToGroup_110, Option.bind_some, Option.toList_some, Option.toList_none, List.cons_append, List.nil_append, zq_rf_some, zq_rf_none, ↓reduceIte, zq_lt, zq_le, zq_eq, nI_add, zq_up_s, zq_up_o, zq_up_k, zq_b_eq0, Nat.reduceEqDiff, Nat.reduceLeDiff, Nat.reduceLT, Nat.reduceAdd, not_true_eq_false, not_false_eq_true, Nat.not_lt_zero, zq_on_lt, zq_os, false_or, or_false, or_self, Bool.false_eq_true, z, a2, pa, ka, r6, cl, si, re, hin, pb, f1]
      · have : zc_pm K U ad (c + 1) b = zr_lm K ad (K (b / 2)) (zr_re K U (b ^^^ 1)) ++ zc_pm K U ad c (b / 2) := by rw [zc_pm, if_neg z]
        rw [this, zc_sm_app]
        exact (zc_eq.sm a8 _ (zc_eq.sm a8 _ (fun a j q => o2 a j q))).tr f2
theorem c_sendTo {d nx kx g : Nat} {sh : zq_S} {P : zq_P} {X : Nat → Nat → Nat} {I0 : zq_I} {ne k : Nat} (hG : zc_lay g ne sh P) (h : zc_ep g k sh P) (ad : Nat → Bool) (hre : ∀ m, 1 ≤ m → m < 16 → (zr_re (X (k + 2)) (X (k + 3)) m).length ≤ 15) (hX : zr_bd X) (ha : ∀ x, x < 16 → ((8 ≤ x ∧ ¬ zq_bt (X k 5) (x - 8) = 0) ↔ ad x = true)) (hb : X k 1 < 16) :
    ∃ X', zq_C (d + 8) 35 [.ref g, .ref (g + k)] sh (zx g X I0) P nx kx = some (none, sh, zx g X' I0, P, nx, kx) ∧ zc_eq (zc_sm k X (zc_pm (X (k + 2)) (X (k + 3)) ad 4 (X k 1))) X' ∧ zr_bd X' := by
  obtain ⟨X', f1, f2, f3⟩ := c_sendTo_out (d := d) (nx := nx) (kx := kx) (I0 := I0) hG h (X (k + 2)) (X (k + 3)) ad hre 4 (X k 1) X none none none hX (fun _ => rfl) (fun _ => rfl) ha (by omega) hb
  refine ⟨X', ?_, f2, f3⟩
  obtain ⟨a1, a2, a3, a4, a5, a6, a7, a8⟩ := id h
  simp (disch := first | assumption | omega | exact Nat.le_of_ble_eq_true rfl) only [q_G_sendToGroup, q_G_sendToGroup_0, q_G_sendToGroup_0n, q_G_sendToGroup_1, q_G_sendToGroup_4, q_G_sendToGroup_6, q_G_sendToGroup_7, q_G_sendToGroup_10, q_G_sendToGroup_10n, q_G_sendToGroup_11, q_G_sendToGroup_14, q_G_sendToGroup_15, q_G_sendToGroup_18, q_G_sendToGroup_21, q_G_sendToGroup_22, q_G_sendToGroup_22n, q_G_sendToGroup_23, q_G_sendToGroup_26, q_G_sendToGroup_29, q_G_sendToGroup_29n, q_G_sendToGroup_30, q_G_sendToGroup_33, q_G_sendToGroup_34, q_G_sendToGroup_37, q_G_sendToGroup_37n, q_G_sendToGroup_38, q_G_sendToGroup_41, q_G_sendToGroup_44, q_G_sendToGroup_45, q_G_sendToGroup_49, q_G_sendToGroup_49n, q_G_sendToGroup_50, q_G_sendToGroup_53, q_G_sendToGroup_56, q_G_sendToGroup_59, q_G_sendToGroup_59n, q_G_sendToGroup_60, q_G_sendToGroup_63, q_G_sendToGroup_65, q_G_sendToGroup_68, q_G_sendToGroup_70, q_G_sendToGroup_70n, q_G_sendToGroup_71, q_G_sendToGroup_73, q_G_sendToGroup_75, q_G_sendToGroup_76, q_G_sendToGroup_79, q_G_sendToGroup_82, q_G_sendToGroup_82n, q_G_sendToGroup_83, q_G_sendToGroup_83n, q_G_sendToGroup_84, q_G_sendToGroup_87, q_G_sendToGroup_89, q_G_sendToGroup_92, q_G_sendToGroup_93, q_G_sendToGroup_96, q_G_sendToGroup_99, q_G_sendToGroup_102, q_G_sendToGroup_103, q_G_sendToGroup_106, q_G_sendToGroup_107, q_G_sendToGroup_110, Option.bind_some, Option.toList_some, Option.toList_none, List.cons_append, List.nil_append, zq_rf_some, zq_rf_none, ↓reduceIte, zq_lt, zq_le, zq_eq, nI_add, zq_up_s, zq_up_o, zq_up_k, zq_b_eq0, Nat.reduceEqDiff, Nat.reduceLeDiff, Nat.reduceLT, Nat.reduceAdd, not_true_eq_false, not_false_eq_true, Nat.not_lt_zero, zq_on_lt, zq_os, false_or, or_false, or_self, Bool.false_eq_true, zx_n, f1]
