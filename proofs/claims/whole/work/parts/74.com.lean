theorem zc_cu_v : ∀ (c i : Nat) (X : (Nat → Nat → Nat)), (∀ t, i ≤ t → t < i + c → X 17 t < 10) → (∀ a j, j ≠ 4 ∨ a < 2 ∨ 12 ≤ a → zc_cu c i X a j = X a j) ∧ (∀ q, (∃ t, i ≤ t ∧ t < i + c ∧ X 17 t = q) → zc_cu c i X (2 + q) 4 = 0) ∧ ∀ q, X (2 + q) 4 = 0 → zc_cu c i X (2 + q) 4 = 0
  | 0, i, X, h => ⟨fun _ _ _ => rfl, fun q ⟨t, a, b, _⟩ => by omega, fun q z => z⟩
  | c + 1, i, X, h => by
    have hi := h i (Nat.le_refl _) (by omega)
    have o17 : ∀ t, zq_up X (2 + X 17 i) 4 0 17 t = X 17 t := fun t => zq_up_o (by omega)
    obtain ⟨r1, r2, r3⟩ := zc_cu_v c (i + 1) (zq_up X (2 + X 17 i) 4 0) (fun t a b => by rw [o17]; exact h t (by omega) (by omega))
    rw [zc_cu]
    refine ⟨fun a j q => ?_, fun q hq => ?_, fun q z => r3 q ?_⟩
    · rw [r1 a j q, zq_up, if_neg (by omega)]
    · obtain ⟨t, t1, t2, t3⟩ := hq
      by_cases e : t = i
      · refine r3 q ?_
        rw [← t3, e, zq_up_s]
      · exact r2 q ⟨t, by omega, by omega, by rw [o17]; exact t3⟩
    · by_cases e : 2 + q = 2 + X 17 i
      · rw [e, zq_up_s]
      · rw [zq_up_o e]; exact z
/-- the class's new state before the listener hears -/
def Wv (X S : (Nat → Nat → Nat)) (p e : Nat) (X7 S6 : (Nat → Nat → Nat)) (c8 : List (Nat × Nat)) (W : (Nat → Nat → Nat)) : Prop := (∀ a j, 12 ≤ a → a < 45 + 8 * (e + 1) → ¬ ((a = 16 ∨ a = 18 ∨ a = 20) ∧ j = 1) → W a j = X a j) ∧ W 16 1 = 0 ∧ W 18 1 = 0 ∧ W 20 1 = 0 ∧ W 0 8 = e + 2 ∧ W 0 9 = S 0 1 + 4 ∧ (∀ q, q < 10 → W (2 + q) 0 = S6 6 q ∧ W (2 + q) 1 = (if q = p then e + 1 else S6 8 q) ∧ W (2 + q) 2 = S6 9 q ∧ W (2 + q) 3 = S 7 q ∧ W (2 + q) 4 = 0) ∧ (∀ n, W (45 + 8 * (e + 1) + 2) n = X7 (45 + 8 * (e + 1) + 2) n ∧ W (45 + 8 * (e + 1) + 3) n = X7 (45 + 8 * (e + 1) + 3) n) ∧ W (45 + 8 * (e + 1)) 1 = 8 + S 9 p ∧ W (45 + 8 * (e + 1)) 4 = S6 3 (e + 1) ∧ W (45 + 8 * (e + 1) + 4) 1 = c8.length ∧ W (45 + 8 * (e + 1) + 6) 1 = c8.length ∧ ∀ i r, c8[i]? = some r → W (45 + 8 * (e + 1) + 5) i = r.2 ∧ W (45 + 8 * (e + 1) + 7) i = r.1
theorem J.comW {X S X6 X7 S6 : (Nat → Nat → Nat)} {p e : Nat} {c8 : List (Nat × Nat)} (h : J X S) (hp : p < 10) (M : Mid X S p e X6 S6) (o7 : ∀ a j, a ≠ 45 + 8 * (e + 1) + 2 → a ≠ 45 + 8 * (e + 1) + 3 → ¬ (a = 0 ∧ j = 9) → X7 a j = X6 a j) (k9 : X7 0 9 = S 0 1 + 4) (hc : c8.length ≤ 14) : Wv X S p e X7 S6 c8 (zc_cl3 (zc_cu (X 16 1) 0 (zq_up (zc_sm (45 + 8 * (e + 1)) X7 c8) (2 + p) 1 (e + 1)))) := by
  have pr := h.pr
  obtain ⟨⟨b1, b2, b3, b4, b5, b6⟩, hP, hA, hQ, hL⟩ := h
  obtain ⟨⟨q1, q2, q3⟩, q4, q5, q6, q7, q8, q9, q10, q11⟩ := hQ
  obtain ⟨t1, t2, ct, stay, pe, old, new, bits, own, un, rem, fX, x8, x1, x4, x6, fS⟩ := M
  obtain ⟨s1, s2, s3, s4⟩ := zc_sm_v (k := 45 + 8 * (e + 1)) c8 X7 0 (by rw [o7 _ _ (by omega) (by omega) (by omega)]; exact x4) (by rw [o7 _ _ (by omega) (by omega) (by omega)]; exact x6) (by omega)
  have so : ∀ a j, a < 45 + 8 * (e + 1) + 4 ∨ 45 + 8 * (e + 1) + 8 ≤ a → zc_sm (45 + 8 * (e + 1)) X7 c8 a j = X7 a j := fun a j q => zc_sm_o q c8 X7
  generalize zc_sm (45 + 8 * (e + 1)) X7 c8 = X8 at *
  have o8 : ∀ a j, a < 45 + 8 * (e + 1) → ¬ (a = 0 ∧ (j = 8 ∨ j = 9)) → ¬ (2 ≤ a ∧ a < 12 ∧ j < 3) → X8 a j = X a j := fun a j z1 z2 z3 => by
    rw [so a j (by omega), o7 a j (by omega) (by omega) (by omega), fX a j z1 (by omega) z3]
  have e17 : ∀ t, zq_up X8 (2 + p) 1 (e + 1) 17 t = X 17 t := fun t => by rw [zq_up_o (by omega)]; exact o8 _ _ (by omega) (by omega) (by omega)
  obtain ⟨c1, c2, c3⟩ := zc_cu_v (X 16 1) 0 (zq_up X8 (2 + p) 1 (e + 1)) (fun t _ ht => by rw [e17]; exact pr.2.2.2.2.1 t (by omega))
  generalize zc_cu (X 16 1) 0 (zq_up X8 (2 + p) 1 (e + 1)) = X9 at *
  have o9 : ∀ a j, ¬ (2 ≤ a ∧ a < 12) → zc_cl3 X9 a j = if (a = 16 ∨ a = 18 ∨ a = 20) ∧ j = 1 then 0 else X8 a j := fun a j z => by
    unfold zc_cl3
    have e1 : X9 a j = X8 a j := by rw [c1 a j (by omega), zq_up_o (by omega)]
    by_cases y : (a = 16 ∨ a = 18 ∨ a = 20) ∧ j = 1
    · rw [if_pos y]
      obtain ⟨y | y | y, y'⟩ := y
      · rw [y, y', zq_up_o (by omega), zq_up_o (by omega), zq_up_s]
      · rw [y, y', zq_up_o (by omega), zq_up_s]
      · rw [y, y', zq_up_s]
    · rw [if_neg y, ← e1]
      exact (by simp only [zq_up, and_self, true_and, and_true, false_and, and_false, if_true, if_false] <;> (repeat (first | rw [if_neg (by omega)] | rw [if_pos (by omega)])))
  have op : ∀ q j, q < 10 → zc_cl3 X9 (2 + q) j = X9 (2 + q) j := fun q j hq => by
    unfold zc_cl3
    rw [zq_up_o (by omega), zq_up_o (by omega), zq_up_o (by omega)]
  have up : ∀ q j, q < 10 → j ≠ 4 → j ≠ 1 → zc_cl3 X9 (2 + q) j = X6 (2 + q) j := fun q j hq z1 z2 => by
    rw [op q j hq, c1 _ _ (by omega), zq_up_k z2, so _ _ (by omega), o7 _ _ (by omega) (by omega) (by omega)]
  refine ⟨fun a j z1 z2 z3 => ?_, ?_, ?_, ?_, ?_, ?_, fun q hq => ⟨?_, ?_, ?_, ?_, ?_⟩, fun n => ⟨?_, ?_⟩, ?_, ?_, ?_, ?_, fun i r hr => ?_⟩
  · rw [o9 a j (by omega), if_neg z3, o8 a j z2 (by omega) (by omega)]
  · rw [o9 _ _ (by omega), if_pos (by omega)]
  · rw [o9 _ _ (by omega), if_pos (by omega)]
  · rw [o9 _ _ (by omega), if_pos (by omega)]
  · rw [o9 _ _ (by omega), if_neg (by omega), so _ _ (by omega), o7 _ _ (by omega) (by omega) (by omega)]; exact x8
  · rw [o9 _ _ (by omega), if_neg (by omega), so _ _ (by omega)]; exact k9
  · rw [up q 0 hq (by omega) (by omega)]; exact (pe q hq).1
  · rw [op q 1 hq, c1 _ _ (by omega)]
    by_cases z : q = p
    · rw [if_pos z, z, zq_up_s]
    · rw [if_neg z, zq_up_o (by omega), so _ _ (by omega), o7 _ _ (by omega) (by omega) (by omega)]; exact (pe q hq).2.1
  · rw [up q 2 hq (by omega) (by omega)]; exact (pe q hq).2.2
  · rw [up q 3 hq (by omega) (by omega), fX _ _ (by omega) (by omega) (by omega)]; exact (hP q hq).2.2.2.1
  · rw [op q 4 hq]
    by_cases z : q ∈ zr_pl S 0
    · rw [← q1, zc_ls_mem] at z
      obtain ⟨t, y1, y2⟩ := z
      exact c2 q ⟨t, by omega, by omega, by rw [e17]; exact y2⟩
    · refine c3 q ?_
      rw [zq_up_k (by omega), o8 _ _ (by omega) (by omega) (by omega)]
      exact q7 q hq z
  · rw [o9 _ _ (by omega), if_neg (by omega), so _ _ (by omega)]
  · rw [o9 _ _ (by omega), if_neg (by omega), so _ _ (by omega)]
  · rw [o9 _ _ (by omega), if_neg (by omega), so _ _ (by omega), o7 _ _ (by omega) (by omega) (by omega)]; exact x1
  · rw [o9 _ _ (by omega), if_neg (by omega), so _ _ (by omega), o7 _ _ (by omega) (by omega) (by omega)]; exact rem
  · rw [o9 _ _ (by omega), if_neg (by omega), s1, Nat.zero_add]
  · rw [o9 _ _ (by omega), if_neg (by omega), s2, Nat.zero_add]
  · have := s3 i r hr
    rw [Nat.zero_add] at this
    rw [o9 _ _ (by omega), if_neg (by omega), o9 _ _ (by omega), if_neg (by omega)]
    exact this
/-- the reference's new state -/
def Tv (S : (Nat → Nat → Nat)) (p e : Nat) (X7 S6 : (Nat → Nat → Nat)) (cmm : List (Nat × Nat)) (T : (Nat → Nat → Nat)) : Prop := T 0 0 = e + 2 ∧ T 0 1 = S 0 1 + 4 ∧ T 0 11 = 0 ∧ T 0 15 = S 0 15 + cmm.length ∧ (∀ j, j < (e + 1) * 16 → T 1 j = S 1 j ∧ T 2 j = S 2 j) ∧ (∀ n, 1 ≤ n → n < 16 → T 1 ((e + 1) * 16 + n) = X7 (45 + 8 * (e + 1) + 2) n ∧ T 2 ((e + 1) * 16 + n) = X7 (45 + 8 * (e + 1) + 3) n) ∧ (∀ j, j ≠ e + 1 → T 3 j = S 3 j ∧ T 4 j = S 4 j ∧ T 5 j = S 5 j) ∧ T 3 (e + 1) = S6 3 (e + 1) ∧ T 4 (e + 1) = cmm.length ∧ T 5 (e + 1) = S 0 1 + 2 ∧ (∀ q, T 6 q = S6 6 q ∧ T 7 q = S 7 q ∧ T 8 q = (if q = p then e + 1 else S6 8 q) ∧ T 9 q = S6 9 q) ∧ (∀ j, T 10 j = S 10 j ∧ T 11 j = S 11 j) ∧ (∀ i, i < S 0 15 → T 13 i = S 13 i ∧ T 14 i = S 14 i) ∧ (∀ i r, cmm[i]? = some r → T 13 (S 0 15 + i) = r.1 ∧ T 14 (S 0 15 + i) = r.2) ∧ ∀ j, T 15 j = S 15 j ∧ T 16 j = S 16 j
theorem J.comT {X S X6 X7 S6 : (Nat → Nat → Nat)} {p e : Nat} {cmm : List (Nat × Nat)} (h : J X S) (he : e < 20) (M : Mid X S p e X6 S6) (K7 : ∀ n, 1 ≤ n → n < 16 → X7 (45 + 8 * (e + 1) + 2) n = if n = 8 + S 9 p then S 0 1 + 1 else if n = (8 + S 9 p) / 2 then S 0 1 + 2 else if n = (8 + S 9 p) / 4 then S 0 1 + 3 else if n = 1 then S 0 1 + 4 else S6 1 (336 + n)) (U7 : ∀ n, 1 ≤ n → n < 16 → X7 (45 + 8 * (e + 1) + 3) n = if n = 8 + S 9 p ∨ an n (S 9 p) then 0 else S6 2 (336 + n)) : Tv S p e X7 S6 cmm (zr_cfin S (zr_cb (e + 1) 16 0 (zr_pth 4 (8 + S 9 p) (zr_sm S6 cmm))) p e) := by
  have l8 := h.1.1.2.2.1 p
  obtain ⟨t1, t2, ct, stay, pe, old, new, bits, own, un, rem, fX, x8, x1, x4, x6, fS⟩ := M
  obtain ⟨m1, m2, m3⟩ := zr_sm_v cmm S6
  have so : ∀ a j, a ≠ 13 → a ≠ 14 → a ≠ 0 ∨ j ≠ 15 → zr_sm S6 cmm a j = S6 a j := fun a j z1 z2 z3 => zr_sm_o z1 z2 z3 cmm S6
  have n15 : S6 0 15 = S 0 15 := fS _ _ (by omega) (by omega) (by omega) (by omega) (by omega)
  rw [n15] at m1 m2 m3
  generalize zr_sm S6 cmm = Ts at *
  have pv := zr_pth_v (S := Ts) (l := S 9 p) l8
  have k1 : Ts 0 1 = S 0 1 := by rw [so _ _ (by omega) (by omega) (by omega), fS _ _ (by omega) (by omega) (by omega) (by omega) (by omega)]
  rw [k1] at pv
  generalize zr_pth 4 (8 + S 9 p) Ts = Tp at *
  have cv : ∀ a j, zr_cb (e + 1) 16 0 Tp a j = _ := fun a j => zr_cb_v (by omega) 16 0 Tp a j (by omega)
  generalize zr_cb (e + 1) 16 0 Tp = Tb at *
  have po : ∀ a j, a ≠ 1 → a ≠ 2 → ¬ (a = 0 ∧ j = 1) → Tp a j = Ts a j := fun a j z1 z2 z3 => by
    rw [pv, if_neg z3, if_neg (by omega), if_neg (by omega), if_neg (by omega), if_neg (by omega), if_neg (by omega)]
  have bo : ∀ a j, a ≠ 1 → a ≠ 2 → ¬ (a = 0 ∧ j = 1) → Tb a j = Ts a j := fun a j z1 z2 z3 => by
    rw [cv, if_neg (by omega), po a j z1 z2 z3]
  have b01 : Tb 0 1 = S 0 1 + 4 := by rw [cv, if_neg (by omega), pv, if_pos ⟨rfl, rfl⟩]
  have b015 : Tb 0 15 = S 0 15 + cmm.length := by rw [bo _ _ (by omega) (by omega) (by omega), m1]
  unfold zr_cfin
  rw [b01, b015]
  generalize hT : zq_up (zq_up (zq_up (zq_up (zq_up Tb 5 (e + 1) (S 0 1 + 4 - 2)) 4 (e + 1) (S 0 15 + cmm.length - S 0 15)) 0 0 (e + 2)) 8 p (e + 1)) 0 11 0 = T
  have to : ∀ a j, ¬ ((a = 5 ∨ a = 4) ∧ j = e + 1) → ¬ (a = 0 ∧ (j = 0 ∨ j = 11)) → ¬ (a = 8 ∧ j = p) → T a j = Tb a j := fun a j z1 z2 z3 => by rw [← hT]; exact (by simp only [zq_up, and_self, true_and, and_true, false_and, and_false, if_true, if_false] <;> (repeat (first | rw [if_neg (by omega)] | rw [if_pos (by omega)])))
  have t15 : T 0 15 = S 0 15 + cmm.length := by rw [to _ _ (by omega) (by omega) (by omega), b015]
  have tS : ∀ a j, a ≠ 1 ∧ a ≠ 2 → a ≠ 13 → a ≠ 14 → a ≠ 0 → a ≠ 6 → a ≠ 8 → a ≠ 9 → ¬ ((a = 3 ∨ a = 4 ∨ a = 5) ∧ j = e + 1) → T a j = S a j := fun a j y1 y2 y3 y4 y5 y6 y7 y8 => by
    rw [to a j (by omega) (by omega) (by omega), bo a j y1.1 y1.2 (by omega), so a j y2 y3 (by omega), fS a j (by omega) y5 y6 y7 (by omega)]
  refine ⟨by rw [← hT]; exact (by simp only [zq_up, and_self, true_and, and_true, false_and, and_false, if_true, if_false] <;> (repeat (first | rw [if_neg (by omega)] | rw [if_pos (by omega)]))), by rw [to _ _ (by omega) (by omega) (by omega), b01], by rw [← hT]; exact (by simp only [zq_up, and_self, true_and, and_true, false_and, and_false, if_true, if_false] <;> (repeat (first | rw [if_neg (by omega)] | rw [if_pos (by omega)]))), t15, fun j hj => ?_, fun n h1 h2 => ?_, fun j hj => ⟨tS _ _ (by omega) (by omega) (by omega) (by omega) (by omega) (by omega) (by omega) (by omega), tS _ _ (by omega) (by omega) (by omega) (by omega) (by omega) (by omega) (by omega) (by omega), tS _ _ (by omega) (by omega) (by omega) (by omega) (by omega) (by omega) (by omega) (by omega)⟩, ?_, ?_, ?_, fun q => ⟨?_, tS _ _ (by omega) (by omega) (by omega) (by omega) (by omega) (by omega) (by omega) (by omega), ?_, ?_⟩, fun j => ⟨tS _ _ (by omega) (by omega) (by omega) (by omega) (by omega) (by omega) (by omega) (by omega), tS _ _ (by omega) (by omega) (by omega) (by omega) (by omega) (by omega) (by omega) (by omega)⟩, fun i hi => ?_, fun i r hr => ?_, fun j => ⟨tS _ _ (by omega) (by omega) (by omega) (by omega) (by omega) (by omega) (by omega) (by omega), tS _ _ (by omega) (by omega) (by omega) (by omega) (by omega) (by omega) (by omega) (by omega)⟩⟩
  · rw [to _ _ (by omega) (by omega) (by omega), to _ _ (by omega) (by omega) (by omega), cv, cv, if_neg (by omega), if_neg (by omega), pv, pv, if_neg (by omega), if_neg (by omega), if_neg (by omega), if_neg (by omega), if_neg (by omega), if_neg (by omega), if_neg (by omega), if_neg (by omega), if_neg (by omega), if_neg (by omega), if_neg (by omega), if_neg (by omega), so _ _ (by omega) (by omega) (by omega), so _ _ (by omega) (by omega) (by omega), fS _ _ (by omega) (by omega) (by omega) (by omega) (by omega), fS _ _ (by omega) (by omega) (by omega) (by omega) (by omega)]
    exact ⟨rfl, rfl⟩
  · have j1 : 336 + ((e + 1) * 16 + n - (e + 1) * 16) = 336 + n := by omega
    rw [to _ _ (by omega) (by omega) (by omega), to _ _ (by omega) (by omega) (by omega), cv, cv, if_pos (by omega), if_pos (by omega), j1, pv, pv, K7 n h1 h2, U7 n h1 h2, so 1 _ (by omega) (by omega) (by omega), so 2 _ (by omega) (by omega) (by omega)]
    constructor
    · rw [if_neg (by omega)]
      by_cases z1 : n = 8 + S 9 p
      · rw [if_pos (by omega), if_pos z1]
      · rw [if_neg (by omega), if_neg z1]
        by_cases z2 : n = (8 + S 9 p) / 2
        · rw [if_pos (by omega), if_pos z2]
        · rw [if_neg (by omega), if_neg z2]
          by_cases z3 : n = (8 + S 9 p) / 4
          · rw [if_pos (by omega), if_pos z3]
          · rw [if_neg (by omega), if_neg z3]
            by_cases z4 : n = 1
            · rw [if_pos (by omega), if_pos z4]
            · rw [if_neg (by omega), if_neg z4, if_neg (by omega)]
    · rw [if_neg (by omega), if_neg (by omega), if_neg (by omega), if_neg (by omega), if_neg (by omega)]
      by_cases z : n = 8 + S 9 p ∨ an n (S 9 p)
      · rw [if_pos (by omega), if_pos z]
      · rw [if_neg (by omega), if_neg z]
  · rw [to _ _ (by omega) (by omega) (by omega), bo _ _ (by omega) (by omega) (by omega), so _ _ (by omega) (by omega) (by omega)]
  · rw [← hT, show S 0 15 + cmm.length - S 0 15 = cmm.length from by omega]; exact (by simp only [zq_up, and_self, true_and, and_true, false_and, and_false, if_true, if_false] <;> (repeat (first | rw [if_neg (by omega)] | rw [if_pos (by omega)])))
  · rw [← hT, show S 0 1 + 4 - 2 = S 0 1 + 2 from by omega]; exact (by simp only [zq_up, and_self, true_and, and_true, false_and, and_false, if_true, if_false] <;> (repeat (first | rw [if_neg (by omega)] | rw [if_pos (by omega)])))
  · rw [to _ _ (by omega) (by omega) (by omega), bo _ _ (by omega) (by omega) (by omega), so _ _ (by omega) (by omega) (by omega)]
  · by_cases z : q = p
    · rw [if_pos z, z, ← hT]; exact (by simp only [zq_up, and_self, true_and, and_true, false_and, and_false, if_true, if_false] <;> (repeat (first | rw [if_neg (by omega)] | rw [if_pos (by omega)])))
    · rw [if_neg z, to _ _ (by omega) (by omega) (by omega), bo _ _ (by omega) (by omega) (by omega), so _ _ (by omega) (by omega) (by omega)]
  · rw [to _ _ (by omega) (by omega) (by omega), bo _ _ (by omega) (by omega) (by omega), so _ _ (by omega) (by omega) (by omega)]
  · rw [to _ _ (by omega) (by omega) (by omega), to _ _ (by omega) (by omega) (by omega), bo _ _ (by omega) (by omega) (by omega), bo _ _ (by omega) (by omega) (by omega), (m3 i hi).1, (m3 i hi).2, fS _ _ (by omega) (by omega) (by omega) (by omega) (by omega), fS _ _ (by omega) (by omega) (by omega) (by omega) (by omega)]
    exact ⟨rfl, rfl⟩
  · rw [to _ _ (by omega) (by omega) (by omega), to _ _ (by omega) (by omega) (by omega), bo _ _ (by omega) (by omega) (by omega), bo _ _ (by omega) (by omega) (by omega)]
    exact m2 i r hr
