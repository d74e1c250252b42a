/-! THE STAGES OF A COMMIT -/
theorem wt.congr {m : Nat} {K U K' U' : Nat → Nat} (h : wt m K U) (hK : ∀ n, 1 ≤ n → n < 16 → K' n = K n) (hU : ∀ n, 1 ≤ n → n < 16 → U' n = U n) : wt m K' U' := by
  obtain ⟨a1, a2, a3, a4, a5⟩ := h
  refine ⟨fun n h1 h2 => by rw [hK n h1 h2]; exact a1 n h1 h2, fun l hl => by rw [hU _ (by omega) (by omega)]; exact a2 l hl, fun n l h1 h2 h3 w => ?_, fun n h1 h2 w => ?_, fun n l h1 h2 h3 w => ?_⟩
  · rw [hU n h1 (by omega)] at w
    exact a3 n l h1 h2 h3 w
  · rw [hK n h1 (by omega)] at w
    obtain ⟨l, b1, b2, b3, b4⟩ := a4 n h1 h2 w
    exact ⟨l, b1, b2, by rw [hK _ (by omega) (by omega)]; exact b3, by rw [hU n h1 (by omega)]; exact b4⟩
  · rw [hU n h1 (by omega)] at w
    rw [hK _ (by omega) (by omega)]
    exact a5 n l h1 h2 h3 w
def P2 (X0 S0 : (Nat → Nat → Nat)) (k m : Nat) (X S : (Nat → Nat → Nat)) : Prop := tr X S k ∧ tw m S ∧ (∀ l, l < 8 → (S 1 (344 + l) = 0 ↔ S0 1 (344 + l) = 0)) ∧ (∀ a j, a ≠ k + 2 → a ≠ k + 3 → X a j = X0 a j) ∧ ∀ a j, a ≠ 1 ∧ a ≠ 2 ∨ j < 336 → S a j = S0 a j
theorem st2 {X0 S0 : (Nat → Nat → Nat)} {k m p n n' : Nat} (hk : 45 ≤ k) (h : tr X0 S0 k) (w : tw m S0) (hl : ((List.range n).filter (fun i => S0 10 i == 0)).map (S0 11) = (List.range n').map (X0 17)) (hf : ∀ i, i < n → S0 10 i = 0 → S0 11 i < 10 ∧ S0 9 (S0 11 i) < 8 ∧ X0 (2 + S0 11 i) 2 = S0 9 (S0 11 i) ∧ X0 (2 + S0 11 i) 4 = S0 12 i ∧ 1 ≤ S0 12 i ∧ S0 12 i ≤ m ∧ ¬ S0 1 (344 + S0 9 (S0 11 i)) = 0) : P2 X0 S0 k m (zc_au k p n' 0 X0) (zr_ups p n 0 S0) := by
  rw [zc_au_fo, zr_ups_fo]
  refine fo_sim (R := fun _ => P2 X0 S0 k m) (kd := S0 10) (wh := S0 11) (cl := X0 17) (kk := 0) (n := n) (n' := n') (fun t i X S hR hi hq => ?_) (fun t i X S hR ht hi hq hc => ?_) n 0 n' 0 X0 S0 (by omega) (by omega) ⟨h, w, fun _ _ => Iff.rfl, fun _ _ _ _ => rfl, fun _ _ _ => rfl⟩ (by rw [← List.range_eq_range', ← List.range_eq_range']; exact hl)
  · have s10 : S 10 i = S0 10 i := hR.2.2.2.2 _ _ (by omega)
    show P2 X0 S0 k m X (if S 10 i = 0 ∧ ¬ S 11 i = p then _ else S)
    rw [if_neg (by rw [s10]; exact fun z => hq z.1)]
    exact hR
  · have hR0 := hR
    obtain ⟨r1, r2, r3, r4, r5⟩ := hR
    obtain ⟨f1, f2, f3, f4, f5, f6, f7⟩ := hf i hi hq
    have s10 : S 10 i = 0 := (r5 _ _ (by omega)).trans hq
    have s11 : S 11 i = S0 11 i := r5 _ _ (by omega)
    have s12 : S 12 i = S0 12 i := r5 _ _ (by omega)
    have s9 : S 9 (S0 11 i) = S0 9 (S0 11 i) := r5 _ _ (by omega)
    have x17 : X 17 t = S0 11 i := (r4 _ _ (by omega) (by omega)).trans hc
    have x2 : X (2 + S0 11 i) 2 = S0 9 (S0 11 i) := (r4 _ _ (by omega) (by omega)).trans f3
    have x4 : X (2 + S0 11 i) 4 = S0 12 i := (r4 _ _ (by omega) (by omega)).trans f4
    show P2 X0 S0 k m (zc_u1 X k p t) (if S 10 i = 0 ∧ ¬ S 11 i = p then zr_bA 3 ((8 + S 9 (S 11 i)) / 2) (zq_up S 1 (344 + S 9 (S 11 i)) (S 12 i)) else S)
    unfold zc_u1
    rw [x17, s11, s10, s9, s12, x2, x4]
    by_cases z : S0 11 i = p
    · rw [if_pos z, if_neg (fun y => y.2 z)]
      exact hR0
    · rw [if_neg z, if_pos ⟨rfl, z⟩]
      obtain ⟨u1, u2, u3, u4, u5⟩ := r1.leaf r2 f2 f6
      refine ⟨u1, u2, fun l hl => ?_, fun a j q q' => (u4 a j q q').trans (r4 a j q q'), fun a j q => (u5 a j q).trans (r5 a j q)⟩
      rw [u3 l hl]
      by_cases y : l = S0 9 (S0 11 i)
      · rw [if_pos y, y]
        exact ⟨fun v => by omega, fun v => absurd v f7⟩
      · rw [if_neg y]
        exact r3 l hl
def P3 (X0 S0 : (Nat → Nat → Nat)) (k m e1 t : Nat) (X S : (Nat → Nat → Nat)) : Prop := tr X S k ∧ tw m S ∧ (∀ l, l < 8 → (S 1 (344 + l) = 0 ↔ S0 1 (344 + l) = 0 ∨ ∃ t', t' < t ∧ X0 19 t' = l)) ∧ X k 4 = S 3 e1 ∧ (∀ l, (¬ zq_bt (S 3 e1) l = 0) ↔ ∃ t', t' < t ∧ X0 19 t' = l) ∧ zr_bl S 21 8 8 = zr_bl S0 21 8 8 + t ∧ (∀ a j, a ≠ k + 2 → a ≠ k + 3 → ¬ (a = k ∧ j = 4) → X a j = X0 a j) ∧ ∀ a j, a ≠ 1 ∧ a ≠ 2 ∨ j < 336 → ¬ (a = 3 ∧ j = e1) → S a j = S0 a j
theorem ex_succ {t : Nat} {Q : Nat → Prop} : (∃ t', t' < t + 1 ∧ Q t') ↔ ((∃ t', t' < t ∧ Q t') ∨ Q t) := by
  constructor
  · rintro ⟨t', a, b⟩
    by_cases z : t' = t
    · exact Or.inr (z ▸ b)
    · exact Or.inl ⟨t', by omega, b⟩
  · rintro (⟨t', a, b⟩ | b)
    · exact ⟨t', by omega, b⟩
    · exact ⟨t, by omega, b⟩
theorem st3 {X0 S0 : (Nat → Nat → Nat)} {k m e1 n n' : Nat} (hk : 45 ≤ k) (h : tr X0 S0 k) (w : tw m S0) (h4 : X0 k 4 = 0) (h3 : S0 3 e1 = 0) (hl : ((List.range n).filter (fun i => S0 10 i == 1)).map (S0 11) = (List.range n').map (X0 19)) (nd : ((List.range n').map (X0 19)).Nodup) (hf : ∀ i, i < n → S0 10 i = 1 → S0 11 i < 8 ∧ ¬ S0 1 (344 + S0 11 i) = 0) : P3 X0 S0 k m e1 n' (zc_ar k n' 0 X0) (zr_rms e1 n 0 S0) := by
  rw [zc_ar_fo, zr_rms_fo]
  refine fo_sim (R := P3 X0 S0 k m e1) (kd := S0 10) (wh := S0 11) (cl := X0 19) (kk := 1) (n := n) (n' := n') (fun t i X S hR hi hq => ?_) (fun t i X S hR ht hi hq hc => ?_) n 0 n' 0 X0 S0 (by omega) (by omega) ⟨h, w, fun l _ => ?_, by rw [h4, h3], fun l => ?_, rfl, fun _ _ _ _ _ => rfl, fun _ _ _ _ => rfl⟩ (by rw [← List.range_eq_range', ← List.range_eq_range']; exact hl)
  · have s10 : S 10 i = S0 10 i := hR.2.2.2.2.2.2.2 _ _ (by omega) (by omega)
    show P3 X0 S0 k m e1 t X (if S 10 i = 1 then _ else S)
    rw [if_neg (by rw [s10]; exact hq)]
    exact hR
  · obtain ⟨r1, r2, r3, r4, r5, r6, r7, r8⟩ := hR
    obtain ⟨f1, f2⟩ := hf i hi hq
    have s10 : S 10 i = 1 := (r8 _ _ (by omega) (by omega)).trans hq
    have s11 : S 11 i = S0 11 i := r8 _ _ (by omega) (by omega)
    have x19 : X 19 t = S0 11 i := (r7 _ _ (by omega) (by omega) (by omega)).trans hc
    show P3 X0 S0 k m e1 (t + 1) (zc_r1 X k t) (if S 10 i = 1 then zq_up (zr_bA 3 ((8 + S 11 i) / 2) (zq_up S 1 (344 + S 11 i) 0)) 3 e1 (S 3 e1 ||| 2 ^ S 11 i) else S)
    unfold zc_r1
    rw [x19, s11, s10, if_pos rfl]
    generalize S0 11 i = l at *
    have r1' : tr (zq_up X k 4 (X k 4 ||| 2 ^ l)) S k := r1.same (fun j => ⟨zq_up_o (by omega), zq_up_o (by omega)⟩) (fun j => ⟨rfl, rfl⟩)
    obtain ⟨u1, u2, u3, u4, u5⟩ := r1'.leaf r2 f1 (Nat.zero_le m)
    generalize zc_bA (k + 1) 3 ((8 + l) / 2) (zc_gk (zq_up X k 4 (X k 4 ||| 2 ^ l)) (k + 1) (8 + l) 0) = A at u1 u4 ⊢
    generalize zr_bA 3 ((8 + l) / 2) (zq_up S 1 (344 + l) 0) = B at u1 u2 u3 u5 ⊢
    have c3 : zq_up B 3 e1 (S 3 e1 ||| 2 ^ l) 3 e1 = S 3 e1 ||| 2 ^ l := zq_up_s
    have c1 : ∀ l', l' < 8 → zq_up B 3 e1 (S 3 e1 ||| 2 ^ l) 1 (344 + l') = if l' = l then 0 else S 1 (344 + l') := fun l' h' => by rw [zq_up_o (by decide), u3 l' h']
    have nb : ¬ S 1 (344 + l) = 0 := fun z => by
      rcases (r3 l f1).mp z with y | ⟨t', y1, y2⟩
      · exact f2 y
      · have := nodup_inj nd (by omega) ht (y2.trans hc.symm)
        omega
    refine ⟨u1.same (fun j => ⟨rfl, rfl⟩) (fun j => ⟨zq_up_o (by decide), zq_up_o (by decide)⟩), u2.same (fun j => ⟨zq_up_o (by decide), zq_up_o (by decide)⟩), fun l' h' => ?_, ?_, fun l' => ?_, ?_, fun a j q1 q2 q3 => ?_, fun a j q1 q2 => ?_⟩
    · rw [c1 l' h', ex_succ, hc]
      by_cases z : l' = l
      · rw [if_pos z]
        exact ⟨fun _ => Or.inr (Or.inr z.symm), fun _ => rfl⟩
      · rw [if_neg z, r3 l' h']
        constructor
        · rintro (y | y)
          · exact Or.inl y
          · exact Or.inr (Or.inl y)
        · rintro (y | y | y)
          · exact Or.inl y
          · exact Or.inr y
          · exact absurd y.symm z
    · rw [u4 k 4 (by omega) (by omega), zq_up_s, c3, r4]
    · rw [c3, bt_or, r5, ex_succ, hc]
      constructor
      · rintro (y | y)
        · exact Or.inl y
        · exact Or.inr y.symm
      · rintro (y | y)
        · exact Or.inl y
        · exact Or.inr y.symm
    · rw [zr_bl_set (S := zq_up B 3 e1 (S 3 e1 ||| 2 ^ l)) (T := S) f1 (by rw [c1 l f1, if_pos rfl]) nb (fun l' h' z => by rw [c1 l' h', if_neg z]), r6]
      omega
    · rw [u4 a j q1 q2, zq_up, if_neg q3]
      exact r7 a j q1 q2 q3
    · rw [zq_up, if_neg q2, u5 a j q1]
      exact r8 a j q1 q2
  · constructor
    · exact Or.inl
    · rintro (y | ⟨t', y, -⟩)
      · exact y
      · omega
  · rw [h3]
    constructor
    · intro y
      exact absurd bt_0 y
    · rintro ⟨t', y, -⟩
      omega
def P4 (X0 S0 : (Nat → Nat → Nat)) (k m e1 t : Nat) (X S : (Nat → Nat → Nat)) : Prop := (tr X S k ∧ tw m S ∧ zr_bl S 21 8 8 + t = zr_bl S0 21 8 8 ∧ zr_ct (fun l => !(zq_bt (X k 5) l == 0)) 8 0 = t) ∧ (∀ l, l < 8 → ¬ S0 1 (344 + l) = 0 → ¬ S 1 (344 + l) = 0) ∧ (∀ q, q < 10 → X (2 + q) 0 = S 6 q ∧ X (2 + q) 1 = S 8 q ∧ X (2 + q) 2 = S 9 q) ∧ (∀ q, (∀ t', t' < t → X0 21 t' ≠ q) → S 6 q = S0 6 q ∧ S 8 q = S0 8 q ∧ S 9 q = S0 9 q) ∧ (∀ t', t' < t → S 6 (X0 21 t') = 2 ∧ S 8 (X0 21 t') = e1 ∧ S 9 (X0 21 t') < 8 ∧ ¬ S 1 (344 + S 9 (X0 21 t')) = 0) ∧ (∀ l, l < 8 → ((¬ zq_bt (X k 5) l = 0) ↔ ∃ t', t' < t ∧ S 9 (X0 21 t') = l)) ∧ (∀ l, l < 8 → ¬ zq_bt (X k 5) l = 0 → S0 1 (344 + l) = 0 ∧ ¬ S 1 (344 + l) = 0) ∧ (∀ n l, 1 ≤ n → n < 8 → l < 8 → ¬ S 1 (336 + n) = 0 → an n l → ¬ zq_bt (X k 5) l = 0 → ¬ zq_bt (S 2 (336 + n)) l = 0) ∧ (∀ a j, a ≠ k + 2 → a ≠ k + 3 → ¬ (a = k ∧ j = 5) → ¬ (2 ≤ a ∧ a < 12 ∧ j < 3) → X a j = X0 a j) ∧ ∀ a j, a ≠ 1 ∧ a ≠ 2 ∨ j < 336 → a ≠ 6 → a ≠ 8 → a ≠ 9 → S a j = S0 a j
set_option maxHeartbeats 2000000 in
theorem st4 {X0 S0 : (Nat → Nat → Nat)} {k m e1 n n' : Nat} (hk : 45 ≤ k) (h : tr X0 S0 k) (w : tw m S0) (h5 : X0 k 5 = 0) (hl : ((List.range n).filter (fun i => S0 10 i == 2)).map (S0 11) = (List.range n').map (X0 21)) (nd : ((List.range n').map (X0 21)).Nodup) (hf : ∀ i, i < n → S0 10 i = 2 → S0 11 i < 10 ∧ X0 (2 + S0 11 i) 3 = S0 7 (S0 11 i) ∧ 1 ≤ S0 7 (S0 11 i) ∧ S0 7 (S0 11 i) ≤ m) (hP : ∀ q, q < 10 → X0 (2 + q) 0 = S0 6 q ∧ X0 (2 + q) 1 = S0 8 q ∧ X0 (2 + q) 2 = S0 9 q) (hb : n' ≤ zr_bl S0 21 8 8) : P4 X0 S0 k m e1 n' (zc_aa k e1 n' 0 X0) (zr_ads e1 n 0 S0) := by
  rw [zc_aa_fo, zr_ads_fo]
  refine fo_sim (R := P4 X0 S0 k m e1) (kd := S0 10) (wh := S0 11) (cl := X0 21) (kk := 2) (n := n) (n' := n') (fun t i X S hR hi hq => ?_) (fun t i X S hR ht hi hq hc => ?_) n 0 n' 0 X0 S0 (by omega) (by omega) ⟨⟨h, w, rfl, ?_⟩, fun _ _ z => z, hP, fun _ _ => ⟨rfl, rfl, rfl⟩, fun t' z => by omega, fun l hl => ?_, fun l hl z => ?_, fun n l h1 h2 h3 y1 y2 y3 => ?_, fun _ _ _ _ _ _ => rfl, fun _ _ _ _ _ _ => rfl⟩ (by rw [← List.range_eq_range', ← List.range_eq_range']; exact hl)
  · have s10 : S 10 i = S0 10 i := hR.2.2.2.2.2.2.2.2.2 _ _ (by omega) (by omega) (by omega) (by omega)
    show P4 X0 S0 k m e1 t X (if S 10 i = 2 then _ else S)
    rw [if_neg (by rw [s10]; exact hq)]
    exact hR
  · obtain ⟨⟨r1, r2, r3, r4⟩, r5, r6, r7, r8, r9, r10, r11, r12, r13⟩ := hR
    obtain ⟨f1, f2, f3, f4⟩ := hf i hi hq
    have s10 : S 10 i = 2 := (r13 _ _ (by omega) (by omega) (by omega) (by omega)).trans hq
    have s11 : S 11 i = S0 11 i := r13 _ _ (by omega) (by omega) (by omega) (by omega)
    have s7 : S 7 (S0 11 i) = S0 7 (S0 11 i) := r13 _ _ (by omega) (by omega) (by omega) (by omega)
    have x21 : X 21 t = S0 11 i := (r12 _ _ (by omega) (by omega) (by omega) (by omega)).trans hc
    have x3 : X (2 + S0 11 i) 3 = S0 7 (S0 11 i) := (r12 _ _ (by omega) (by omega) (by omega) (by omega)).trans f2
    obtain ⟨l, l8, b1, b2, l0⟩ := lb_sim r1 (by omega)
    show P4 X0 S0 k m e1 (t + 1) (zc_a1 X k (X 21 t) e1) (if S 10 i = 2 then zr_pa S (S 11 i) e1 else S)
    unfold zc_a1 zr_pa
    rw [x21, s11, s10, if_pos rfl, b1, b2, if_pos l8, x3, s7]
    generalize S0 7 (S0 11 i) = v at *
    generalize S0 11 i = q at *
    obtain ⟨u1, u2, u3, u4, u5, u6⟩ := r1.add r2 l8 f3 f4 l0
    generalize zc_mk (k + 1) l 3 ((8 + l) / 2) (zc_gk X (k + 1) (8 + l) v) = A at u1 u5 ⊢
    generalize zr_mk l 3 ((8 + l) / 2) (zq_up S 1 (344 + l) v) = B at u1 u2 u3 u4 u6 ⊢
    unfold zc_jn
    generalize hY : zq_up (zq_up (zq_up (zq_up A k 5 (X k 5 ||| 2 ^ l)) (2 + q) 0 2) (2 + q) 2 l) (2 + q) 1 e1 = Y
    generalize hT : zq_up (zq_up (zq_up B 6 q 2) 8 q e1) 9 q l = T
    have ya : ∀ a j, ¬ (a = k ∧ j = 5) → ¬ (a = 2 + q ∧ j < 3) → Y a j = A a j := fun a j z1 z2 => by rw [← hY]; exact (by simp only [zq_up, and_self, true_and, and_true, false_and, and_false, if_true, if_false] <;> (repeat (first | rw [if_neg (by omega)] | rw [if_pos (by omega)])))
    have yk : Y k 5 = X k 5 ||| 2 ^ l := by rw [← hY]; exact (by simp only [zq_up, and_self, true_and, and_true, false_and, and_false, if_true, if_false] <;> (repeat (first | rw [if_neg (by omega)] | rw [if_pos (by omega)])))
    have y0 : Y (2 + q) 0 = 2 := by rw [← hY]; exact (by simp only [zq_up, and_self, true_and, and_true, false_and, and_false, if_true, if_false] <;> (repeat (first | rw [if_neg (by omega)] | rw [if_pos (by omega)])))
    have y1 : Y (2 + q) 1 = e1 := by rw [← hY]; exact (by simp only [zq_up, and_self, true_and, and_true, false_and, and_false, if_true, if_false] <;> (repeat (first | rw [if_neg (by omega)] | rw [if_pos (by omega)])))
    have y2 : Y (2 + q) 2 = l := by rw [← hY]; exact (by simp only [zq_up, and_self, true_and, and_true, false_and, and_false, if_true, if_false] <;> (repeat (first | rw [if_neg (by omega)] | rw [if_pos (by omega)])))
    have ta : ∀ a j, ¬ ((a = 6 ∨ a = 8 ∨ a = 9) ∧ j = q) → T a j = B a j := fun a j z => by rw [← hT]; exact (by simp only [zq_up, and_self, true_and, and_true, false_and, and_false, if_true, if_false] <;> (repeat (first | rw [if_neg (by omega)] | rw [if_pos (by omega)])))
    have t6 : T 6 q = 2 := by rw [← hT]; exact (by simp only [zq_up, and_self, true_and, and_true, false_and, and_false, if_true, if_false] <;> (repeat (first | rw [if_neg (by omega)] | rw [if_pos (by omega)])))
    have t8 : T 8 q = e1 := by rw [← hT]; exact (by simp only [zq_up, and_self, true_and, and_true, false_and, and_false, if_true, if_false] <;> (repeat (first | rw [if_neg (by omega)] | rw [if_pos (by omega)])))
    have t9 : T 9 q = l := by rw [← hT]; exact (by simp only [zq_up, and_self, true_and, and_true, false_and, and_false, if_true, if_false] <;> (repeat (first | rw [if_neg (by omega)] | rw [if_pos (by omega)])))
    have tl : ∀ l', l' < 8 → T 1 (344 + l') = if l' = l then v else S 1 (344 + l') := fun l' h' => by
      rw [ta _ _ (by omega)]
      have := u3 (8 + l') (by omega) (by omega)
      rw [show 336 + (8 + l') = 344 + l' from by omega] at this
      rw [this]
      by_cases z : l' = l
      · rw [if_pos (by omega), if_pos z]
      · rw [if_neg (by omega), if_neg z]
    have tn : ∀ l', l' < 8 → ¬ S 1 (344 + l') = 0 → ¬ T 1 (344 + l') = 0 := fun l' h' z => by
      rw [tl l' h']
      by_cases y : l' = l
      · rw [if_pos y]; omega
      · rw [if_neg y]; exact z
    have tv : ¬ T 1 (344 + l) = 0 := by rw [tl l l8, if_pos rfl]; omega
    have fresh : ∀ t', t' < t → X0 21 t' ≠ q := fun t' z y => by
      have := nodup_inj nd (by omega) ht (y.trans hc.symm)
      omega
    have to : ∀ q', q' ≠ q → T 6 q' = S 6 q' ∧ T 8 q' = S 8 q' ∧ T 9 q' = S 9 q' := fun q' z => by
      rw [ta _ _ (by omega), ta _ _ (by omega), ta _ _ (by omega), u6 _ _ (by omega), u6 _ _ (by omega), u6 _ _ (by omega)]
      exact ⟨rfl, rfl, rfl⟩
    have bl0 : zq_bt (X k 5) l = 0 := Classical.not_not.mp fun z => (r10 l l8 z).2 l0
    refine ⟨⟨u1.same (fun j => ⟨ya _ _ (by omega) (by omega), ya _ _ (by omega) (by omega)⟩) (fun j => ⟨ta _ _ (by omega), ta _ _ (by omega)⟩), u2.same (fun j => ⟨ta _ _ (by omega), ta _ _ (by omega)⟩), ?_, ?_⟩, fun l' h' z => tn l' h' (r5 l' h' z), fun q' hq' => ?_, fun q' z => ?_, fun t' z => ?_, fun l' h' => ?_, fun l' h' z => ?_, fun n l' h1 h2 h3 z1 z2 z3 => ?_, fun a j z1 z2 z3 z4 => ?_, fun a j z1 z2 z3 z4 => ?_⟩
    · have := zr_bl_set (S := S) (T := T) l8 l0 tv (fun l' h' z => by rw [tl l' h', if_neg z])
      omega
    · rw [yk, zr_ct_set (f := fun l => !(zq_bt (X k 5) l == 0)) (k := l) (by simp [bl0]) (by simp [bt_or.mpr (Or.inr rfl : ¬ zq_bt (X k 5) l = 0 ∨ l = l)]) (fun j hj => b_iff (bt_or.trans ⟨fun z => z.elim id (fun y => absurd y hj), Or.inl⟩)) 8 0 (by omega) (by omega), r4]
    · by_cases e : q' = q
      · rw [e, y0, y1, y2, t6, t8, t9]
        exact ⟨rfl, rfl, rfl⟩
      · rw [(to q' e).1, (to q' e).2.1, (to q' e).2.2, ya _ _ (by omega) (by omega), ya _ _ (by omega) (by omega), ya _ _ (by omega) (by omega), u5 _ _ (by omega) (by omega), u5 _ _ (by omega) (by omega), u5 _ _ (by omega) (by omega)]
        exact r6 q' hq'
    · have e : q' ≠ q := fun y => z t (by omega) (hc.trans y.symm)
      rw [(to q' e).1, (to q' e).2.1, (to q' e).2.2]
      exact r7 q' fun t' y => z t' (by omega)
    · by_cases e : t' = t
      · rw [e, hc, t6, t8, t9]
        exact ⟨rfl, rfl, l8, tv⟩
      · obtain ⟨v1, v2, v3, v4⟩ := r8 t' (by omega)
        have ne := fresh t' (by omega)
        rw [(to _ ne).1, (to _ ne).2.1, (to _ ne).2.2]
        exact ⟨v1, v2, v3, tn _ v3 v4⟩
    · rw [yk, bt_or, r9 l' h', ex_succ, hc, t9]
      constructor
      · rintro (⟨t', z1, z2⟩ | z)
        · exact Or.inl ⟨t', z1, by rw [(to _ (fresh t' z1)).2.2]; exact z2⟩
        · exact Or.inr z.symm
      · rintro (⟨t', z1, z2⟩ | z)
        · exact Or.inl ⟨t', z1, by rw [(to _ (fresh t' z1)).2.2] at z2; exact z2⟩
        · exact Or.inr z.symm
    · rw [yk] at z
      rcases bt_or.mp z with y | y
      · exact ⟨(r10 l' h' y).1, tn l' h' (r10 l' h' y).2⟩
      · rw [y]
        exact ⟨Classical.not_not.mp fun y' => r5 l l8 y' l0, tv⟩
    · rw [yk] at z3
      rw [ta _ _ (by omega), u3 n h1 (by omega), if_neg (by omega)] at z1
      rw [ta _ _ (by omega), u4 n h1 (by omega)]
      rcases bt_or.mp z3 with y | y
      · have := r11 n l' h1 h2 h3 z1 z2 y
        split
        · exact bt_or.mpr (Or.inl this)
        · exact this
      · rw [y] at z2 ⊢
        rw [if_pos ⟨z2, z1⟩]
        exact bt_or.mpr (Or.inr rfl)
    · rw [ya a j z3 (by omega), u5 a j z1 z2]
      exact r12 a j z1 z2 z3 z4
    · rw [ta a j (by omega), u6 a j z1]
      exact r13 a j z1 z2 z3 z4
  · rw [h5]
    exact zr_ct_z _ _ fun j _ _ => by simp [bt_0]
  · rw [h5]
    constructor
    · intro y
      exact absurd bt_0 y
    · rintro ⟨t', y, -⟩
      omega
  · rw [h5] at z
    exact absurd bt_0 z
  · rw [h5] at y3
    exact absurd bt_0 y3
