/-! THE TREE BETWEEN THE PROPOSALS AND THE NEW PATH -/
def Mid (X S : (Nat → Nat → Nat)) (p e : Nat) (X6 S6 : (Nat → Nat → Nat)) : Prop := (tr X6 S6 (45 + 8 * (e + 1))) ∧ (tw (S 0 1) S6) ∧ (zr_ct (fun l => !(zq_bt (X6 (45 + 8 * (e + 1)) 5) l == 0)) 8 0 = X 20 1) ∧ (∀ l, l < 8 → ¬ S 1 (e * 16 + (8 + l)) = 0 → zq_bt (S6 3 (e + 1)) l = 0 → ¬ S6 1 (344 + l) = 0) ∧ (∀ q, q < 10 → X6 (2 + q) 0 = S6 6 q ∧ X6 (2 + q) 1 = S6 8 q ∧ X6 (2 + q) 2 = S6 9 q) ∧ (∀ q, q ∉ zr_pl S 2 → S6 6 q = S 6 q ∧ S6 8 q = S 8 q ∧ S6 9 q = S 9 q) ∧ (∀ q, q ∈ zr_pl S 2 → S6 6 q = 2 ∧ S6 8 q = e + 1 ∧ S6 9 q < 8 ∧ ¬ S6 1 (344 + S6 9 q) = 0) ∧ (∀ l, l < 8 → ((¬ zq_bt (X6 (45 + 8 * (e + 1)) 5) l = 0) ↔ ∃ q, q ∈ zr_pl S 2 ∧ S6 9 q = l)) ∧ (zq_bt (X6 (45 + 8 * (e + 1)) 5) (S 9 p) = 0 ∧ ¬ S6 1 (344 + S 9 p) = 0) ∧ (∀ n l, 1 ≤ n → n < 8 → l < 8 → ¬ S6 1 (336 + n) = 0 → an n l → ¬ zq_bt (X6 (45 + 8 * (e + 1)) 5) l = 0 → ¬ zq_bt (S6 2 (336 + n)) l = 0) ∧ (X6 (45 + 8 * (e + 1)) 4 = S6 3 (e + 1)) ∧ (∀ a j, a < 45 + 8 * (e + 1) → ¬ (a = 0 ∧ j = 8) → ¬ (2 ≤ a ∧ a < 12 ∧ j < 3) → X6 a j = X a j) ∧ (X6 0 8 = e + 2) ∧ (X6 (45 + 8 * (e + 1)) 1 = 8 + S 9 p) ∧ (X6 (45 + 8 * (e + 1) + 4) 1 = 0) ∧ (X6 (45 + 8 * (e + 1) + 6) 1 = 0) ∧ (∀ a j, a ≠ 1 ∧ a ≠ 2 ∨ j < 336 → a ≠ 6 → a ≠ 8 → a ≠ 9 → ¬ (a = 3 ∧ j = e + 1) → S6 a j = S a j)
theorem zc_c3_v {X : (Nat → Nat → Nat)} {e p : Nat} (a j : Nat) : zc_c3 X e p a j = if a = 0 ∧ j = 8 then e + 2 else if (a = 45 + 8 * (e + 1) + 2 ∨ a = 45 + 8 * (e + 1) + 3) ∧ 1 ≤ j ∧ j < 16 then X (a - 8) j else if a = 45 + 8 * (e + 1) ∧ j = 1 then 8 + X (2 + p) 2 else if 45 + 8 * (e + 1) ≤ a ∧ a < 45 + 8 * (e + 1) + 8 then 0 else X a j := by
  unfold zc_c3
  rw [zq_up]
  by_cases z : a = 0 ∧ j = 8
  · rw [if_pos z, if_pos z]
  · rw [if_neg z, if_neg z, zc_cp_v (by omega)]
    by_cases y : (a = 45 + 8 * (e + 1) + 2 ∨ a = 45 + 8 * (e + 1) + 3) ∧ 1 ≤ j ∧ j < 16
    · rw [if_pos y, if_pos (by omega), zc_new_o (by omega), show 45 + 8 * e + 1 + (a - (45 + 8 * (e + 1) + 1)) = a - 8 from by omega]
    · rw [if_neg y, if_neg (by omega)]
      by_cases x : a = 45 + 8 * (e + 1) ∧ j = 1
      · rw [if_pos x, x.1, x.2, zc_new_1]
      · rw [if_neg x]
        by_cases u : 45 + 8 * (e + 1) ≤ a ∧ a < 45 + 8 * (e + 1) + 8
        · rw [if_pos u, zc_new_z u.1 u.2 (by omega)]
        · rw [if_neg u, zc_new_o (by omega)]
theorem zr_bl_row {S T : (Nat → Nat → Nat)} {r r' : Nat} (h : ∀ l, l < 8 → (S 1 (r * 16 + (8 + l)) = 0 ↔ T 1 (r' * 16 + (8 + l)) = 0)) : zr_bl S r 8 8 = zr_bl T r' 8 8 := by
  rw [zr_bl_ct, zr_bl_ct]
  refine zr_ct_congr _ _ fun n a b => ?_
  have := h (n - 8) (by omega)
  rw [show 8 + (n - 8) = n from by omega] at this
  show (S 1 (r * 16 + n) == 0) = (T 1 (r' * 16 + n) == 0)
  by_cases z : S 1 (r * 16 + n) = 0
  · rw [z, this.mp z]
  · have y : ¬ T 1 (r' * 16 + n) = 0 := fun y => z (this.mpr y)
    rw [beq_false_of_ne z, beq_false_of_ne y]
set_option maxHeartbeats 2000000 in
theorem J.mid {X S : (Nat → Nat → Nat)} {p e : Nat} (h : J X S) (hp : p < 10) (he : e < 20) (h0 : S 0 0 = e + 1) (h1 : S 6 p = 2) (h8 : S 8 p = e) (h2 : S 9 p ∉ zr_pl S 1) : Mid X S p e (zc_c6 X e p) (zr_c3 S p e) := by
  have fe := h.few
  obtain ⟨⟨b1, b2, b3, b4, b5, b6⟩, hP, hA, hQ, hL⟩ := h
  obtain ⟨⟨q1, q2, q3⟩, q4, q5, q6, q7, q8, q9, q10, q11⟩ := hQ
  obtain ⟨p1, p2, p3, p4, p5, p6, p7, p8, p9⟩ := hP p hp
  obtain ⟨a1, a2⟩ := hA.1 e (by omega)
  have x3v := zc_c3_v (X := X) (e := e) (p := p)
  have sav : ∀ a j, zr_cp e 16 0 (zq_up S 3 (e + 1) 0) a j = if (a = 1 ∨ a = 2) ∧ 336 ≤ j ∧ j < 352 then S a (e * 16 + (j - 336)) else if a = 3 ∧ j = e + 1 then 0 else S a j := fun a j => by
    rw [zr_cp_v (by omega) 16 0 _ a j (by omega)]
    by_cases z : (a = 1 ∨ a = 2) ∧ 336 ≤ j ∧ j < 352
    · rw [if_pos z, if_pos (by omega), zq_up_o (by omega)]
    · rw [if_neg z, if_neg (by omega)]
      rfl
  have c6 : zc_c6 X e p = zc_aa (45 + 8 * (e + 1)) (e + 1) (X 20 1) 0 (zc_ar (45 + 8 * (e + 1)) (X 18 1) 0 (zc_au (45 + 8 * (e + 1)) p (X 16 1) 0 (zc_c3 X e p))) := rfl
  have c3 : zr_c3 S p e = zr_ads (e + 1) (S 0 11) 0 (zr_rms (e + 1) (S 0 11) 0 (zr_ups p (S 0 11) 0 (zr_cp e 16 0 (zq_up S 3 (e + 1) 0)))) := by
    unfold zr_c3 zr_mid
    rw [zq_up_o (show (0 : Nat) ≠ 3 by decide)]
  rw [c6, c3]
  have k2 : 45 + 8 * (e + 1) + 2 - 8 = 45 + 8 * e + 2 := by omega
  have k3 : 45 + 8 * (e + 1) + 3 - 8 = 45 + 8 * e + 3 := by omega
  generalize zc_c3 X e p = X3 at x3v ⊢
  generalize zr_cp e 16 0 (zq_up S 3 (e + 1) 0) = Sa at sav ⊢
  have X3o : ∀ a j, a < 45 + 8 * (e + 1) → ¬ (a = 0 ∧ j = 8) → X3 a j = X a j := fun a j y z => by
    rw [x3v, if_neg z, if_neg (by omega), if_neg (by omega), if_neg (by omega)]
  have X3z : ∀ a j, 45 + 8 * (e + 1) ≤ a → a < 45 + 8 * (e + 1) + 8 → (a ≠ 45 + 8 * (e + 1) + 2 ∧ a ≠ 45 + 8 * (e + 1) + 3) → ¬ (a = 45 + 8 * (e + 1) ∧ j = 1) → X3 a j = 0 := fun a j y1 y2 y3 y4 => by
    rw [x3v, if_neg (by omega), if_neg (by omega), if_neg y4, if_pos ⟨y1, y2⟩]
  have Sao : ∀ a j, a ≠ 1 ∧ a ≠ 2 ∨ j < 336 → ¬ (a = 3 ∧ j = e + 1) → Sa a j = S a j := fun a j y z => by
    rw [sav, if_neg (by omega), if_neg z]
  have Sal : ∀ n, n < 16 → Sa 1 (336 + n) = S 1 (e * 16 + n) ∧ Sa 2 (336 + n) = S 2 (e * 16 + n) := fun n hn => by
    rw [sav, sav, if_pos (by omega), if_pos (by omega), show 336 + n - 336 = n from by omega]
    exact ⟨rfl, rfl⟩
  have Sal8 : ∀ l, l < 8 → Sa 1 (344 + l) = S 1 (e * 16 + (8 + l)) := fun l hl => by
    rw [show 344 + l = 336 + (8 + l) from by omega]
    exact (Sal (8 + l) (by omega)).1
  have tr0 : tr X3 Sa (45 + 8 * (e + 1)) := fun n h1 h2 => by
    rw [(Sal n h2).1, (Sal n h2).2, x3v, if_neg (by omega), if_pos (by omega), k2, x3v, if_neg (by omega), if_pos (by omega), k3]
    exact a1 n h1 h2
  have tw0 : tw (S 0 1) Sa := a2.congr (fun n _ h2 => (Sal n h2).1) (fun n _ h2 => (Sal n h2).2)
  have f10 : Sa 10 = S 10 := funext fun i => Sao _ _ (by omega) (by omega)
  have f11 : Sa 11 = S 11 := funext fun i => Sao _ _ (by omega) (by omega)
  have x17 : X3 17 = X 17 := funext fun i => X3o _ _ (by omega) (by omega)
  have S2 := st2 (X0 := X3) (S0 := Sa) (k := 45 + 8 * (e + 1)) (m := S 0 1) (p := p) (n := S 0 11) (n' := X 16 1) (by omega) tr0 tw0 (by rw [f10, f11, x17]; exact q1.symm) (fun i hi hq => by
    rw [f10] at hq
    obtain ⟨z1, z2, z3, z4, z5⟩ := q6 i hi hq
    have w10 := b1.2.2.2.1 i
    have w8 := b1.2.2.1 (S 11 i)
    obtain ⟨g1, g2, g3, g4, g5, g6, g7, g8, g9⟩ := hP (S 11 i) w10
    have g5 := (g5 z1).2
    rw [show S 8 (S 11 i) = e from by omega] at g5
    rw [f11, Sao 9 _ (by omega) (by omega), Sao 12 _ (by omega) (by omega), X3o _ _ (by omega) (by omega), X3o _ _ (by omega) (by omega), Sal8 _ w8]
    exact ⟨w10, w8, g3, z5, z3, z4, g5⟩)
  generalize zc_au (45 + 8 * (e + 1)) p (X 16 1) 0 X3 = X4 at S2 ⊢
  generalize zr_ups p (S 0 11) 0 Sa = S4 at S2 ⊢
  obtain ⟨tr2, tw2, bl2, fX2, fS2⟩ := S2
  have f10 : S4 10 = S 10 := funext fun i => (fS2 _ _ (by omega)).trans (Sao _ _ (by omega) (by omega))
  have f11 : S4 11 = S 11 := funext fun i => (fS2 _ _ (by omega)).trans (Sao _ _ (by omega) (by omega))
  have x19 : X4 19 = X 19 := funext fun i => (fX2 _ _ (by omega) (by omega)).trans (X3o _ _ (by omega) (by omega))
  have S3 := st3 (X0 := X4) (S0 := S4) (k := 45 + 8 * (e + 1)) (m := S 0 1) (e1 := e + 1) (n := S 0 11) (n' := X 18 1) (by omega) tr2 tw2 (by rw [fX2 _ _ (by omega) (by omega)]; exact X3z _ _ (by omega) (by omega) (by omega) (by omega)) (by rw [fS2 _ _ (by omega), sav, if_neg (by omega), if_pos ⟨rfl, rfl⟩]) (by rw [f10, f11, x19]; exact q2.symm) (by rw [x19]; have := q5 1; rw [← q2] at this; exact this) (fun i hi hq => by
    rw [f10] at hq
    obtain ⟨z1, z2⟩ := q8 i hi hq
    rw [f11]
    refine ⟨z1, fun y => z2 ?_⟩
    rw [show S 0 0 - 1 = e from by omega, ← Sal8 _ z1]
    exact (bl2 _ z1).mp y)
  have nn : X 20 1 ≤ zr_bl S4 21 8 8 + X 18 1 := by
    have e1 : zr_bl S4 21 8 8 = zr_bl S e 8 8 := zr_bl_row fun l hl => by
      rw [show 21 * 16 + (8 + l) = 344 + l from by omega, bl2 l hl, Sal8 l hl]
    rw [show S 0 0 - 1 = e from by omega] at q11
    omega
  generalize zc_ar (45 + 8 * (e + 1)) (X 18 1) 0 X4 = X5 at S3 ⊢
  generalize zr_rms (e + 1) (S 0 11) 0 S4 = S5 at S3 ⊢
  obtain ⟨tr3, tw3, bl3, rm3, bi3, ct3, fX3, fS3⟩ := S3
  have X5o : ∀ a j, a < 45 + 8 * (e + 1) → ¬ (a = 0 ∧ j = 8) → X5 a j = X a j := fun a j y z => by
    rw [fX3 a j (by omega) (by omega) (by omega), fX2 a j (by omega) (by omega)]
    exact X3o a j y z
  have S5o : ∀ a j, a ≠ 1 ∧ a ≠ 2 ∨ j < 336 → ¬ (a = 3 ∧ j = e + 1) → S5 a j = S a j := fun a j y z => by
    rw [fS3 a j y z, fS2 a j y, Sao a j y z]
  have f10 : S5 10 = S 10 := funext fun i => S5o _ _ (by omega) (by omega)
  have f11 : S5 11 = S 11 := funext fun i => S5o _ _ (by omega) (by omega)
  have x21 : X5 21 = X 21 := funext fun i => X5o _ _ (by omega) (by omega)
  have S4 := st4 (X0 := X5) (S0 := S5) (k := 45 + 8 * (e + 1)) (m := S 0 1) (e1 := e + 1) (n := S 0 11) (n' := X 20 1) (by omega) tr3 tw3 (by rw [fX3 _ _ (by omega) (by omega) (by omega), fX2 _ _ (by omega) (by omega)]; exact X3z _ _ (by omega) (by omega) (by omega) (by omega)) (by rw [f10, f11, x21]; exact q3.symm) (by rw [x21]; have := q5 2; rw [← q3] at this; exact this) (fun i hi hq => by
    rw [f10] at hq
    have z1 := q9 i hi hq
    have w10 := b1.2.2.2.1 i
    obtain ⟨g1, g2, g3, g4, g5, g6, g7, g8, g9⟩ := hP (S 11 i) w10
    rw [f11, S5o 7 _ (by omega) (by omega), X5o _ _ (by omega) (by omega)]
    exact ⟨w10, g4, g6 z1, g7⟩) (fun q hq => by
    obtain ⟨g1, g2, g3, g4, g5, g6, g7, g8, g9⟩ := hP q hq
    rw [X5o _ _ (by omega) (by omega), X5o _ _ (by omega) (by omega), X5o _ _ (by omega) (by omega), S5o _ _ (by omega) (by omega), S5o _ _ (by omega) (by omega), S5o _ _ (by omega) (by omega)]
    exact ⟨g1, g2, g3⟩) (by omega)
  generalize zc_aa (45 + 8 * (e + 1)) (e + 1) (X 20 1) 0 X5 = X6 at S4 ⊢
  generalize zr_ads (e + 1) (S 0 11) 0 S5 = S6 at S4 ⊢
  obtain ⟨⟨r1, r2, r3, r4⟩, r5, r6, r7, r8, r9, r10, r11, r12, r13⟩ := S4
  rw [x21] at r7 r8 r9
  have mem : ∀ q, q ∈ zr_pl S 2 ↔ ∃ t', t' < X 20 1 ∧ X 21 t' = q := fun q => by
    rw [← q3, zc_ls_mem]
    rfl
  have l8 := b1.2.2.1 p
  have s3 : S6 3 (e + 1) = S5 3 (e + 1) := r13 _ _ (by omega) (by omega) (by omega) (by omega)
  have stay : ∀ l, l < 8 → ¬ S 1 (e * 16 + (8 + l)) = 0 → zq_bt (S6 3 (e + 1)) l = 0 → ¬ S5 1 (344 + l) = 0 := fun l hl z1 z2 z3 => by
    rw [s3] at z2
    rcases (bl3 l hl).mp z3 with y | y
    · exact z1 (by rw [← Sal8 l hl]; exact (bl2 l hl).mp y)
    · exact (bi3 l).mpr y z2
  have own5 : ¬ S5 1 (344 + S 9 p) = 0 := by
    have g := (p5 h1).2
    rw [h8] at g
    refine stay _ l8 g ?_
    rw [s3]
    refine Classical.not_not.mp fun z => h2 ?_
    obtain ⟨t', y1, y2⟩ := (bi3 _).mp z
    rw [x19] at y2
    rw [← q2, zc_ls_mem]
    exact ⟨t', y1, y2⟩
  have w_t1 : tr X6 S6 (45 + 8 * (e + 1)) := r1
  have w_t2 : tw (S 0 1) S6 := r2
  have w_ct : zr_ct (fun l => !(zq_bt (X6 (45 + 8 * (e + 1)) 5) l == 0)) 8 0 = X 20 1 := r4
  have w_stay : ∀ l, l < 8 → ¬ S 1 (e * 16 + (8 + l)) = 0 → zq_bt (S6 3 (e + 1)) l = 0 → ¬ S6 1 (344 + l) = 0 := fun l hl z1 z2 => r5 l hl (stay l hl z1 z2)
  have w_pe : ∀ q, q < 10 → X6 (2 + q) 0 = S6 6 q ∧ X6 (2 + q) 1 = S6 8 q ∧ X6 (2 + q) 2 = S6 9 q := r6
  have w_old : ∀ q, q ∉ zr_pl S 2 → S6 6 q = S 6 q ∧ S6 8 q = S 8 q ∧ S6 9 q = S 9 q := fun q hq => by
      have y := r7 q fun t' z1 z2 => hq ((mem q).mpr ⟨t', z1, z2⟩)
      rw [S5o _ _ (by omega) (by omega), S5o _ _ (by omega) (by omega), S5o _ _ (by omega) (by omega)] at y
      exact y
  have w_new : ∀ q, q ∈ zr_pl S 2 → S6 6 q = 2 ∧ S6 8 q = e + 1 ∧ S6 9 q < 8 ∧ ¬ S6 1 (344 + S6 9 q) = 0 := fun q hq => by
      obtain ⟨t', y1, y2⟩ := (mem q).mp hq
      rw [← y2]
      exact r8 t' y1
  have w_bits : ∀ l, l < 8 → ((¬ zq_bt (X6 (45 + 8 * (e + 1)) 5) l = 0) ↔ ∃ q, q ∈ zr_pl S 2 ∧ S6 9 q = l) := fun l hl => (r9 l hl).trans ⟨fun ⟨t', y1, y2⟩ => ⟨_, (mem _).mpr ⟨t', y1, rfl⟩, y2⟩, fun ⟨q, y1, y2⟩ => by
      obtain ⟨t', z1, z2⟩ := (mem q).mp y1
      exact ⟨t', z1, by rw [z2]; exact y2⟩⟩
  have w_own : zq_bt (X6 (45 + 8 * (e + 1)) 5) (S 9 p) = 0 ∧ ¬ S6 1 (344 + S 9 p) = 0 := ⟨Classical.not_not.mp fun z => own5 (r10 _ l8 z).1, r5 _ l8 own5⟩
  have w_un : ∀ n l, 1 ≤ n → n < 8 → l < 8 → ¬ S6 1 (336 + n) = 0 → an n l → ¬ zq_bt (X6 (45 + 8 * (e + 1)) 5) l = 0 → ¬ zq_bt (S6 2 (336 + n)) l = 0 := r11
  have w_rem : X6 (45 + 8 * (e + 1)) 4 = S6 3 (e + 1) := by rw [r12 _ _ (by omega) (by omega) (by omega) (by omega), s3, rm3]
  have w_fX : ∀ a j, a < 45 + 8 * (e + 1) → ¬ (a = 0 ∧ j = 8) → ¬ (2 ≤ a ∧ a < 12 ∧ j < 3) → X6 a j = X a j := fun a j y1 y2 y3 => by rw [r12 a j (by omega) (by omega) (by omega) y3]; exact X5o a j y1 y2
  have w_x8 : X6 0 8 = e + 2 := by rw [r12 _ _ (by omega) (by omega) (by omega) (by omega), fX3 _ _ (by omega) (by omega) (by omega), fX2 _ _ (by omega) (by omega), x3v, if_pos ⟨rfl, rfl⟩]
  have w_x1 : X6 (45 + 8 * (e + 1)) 1 = 8 + S 9 p := by rw [r12 _ _ (by omega) (by omega) (by omega) (by omega), fX3 _ _ (by omega) (by omega) (by omega), fX2 _ _ (by omega) (by omega), x3v, if_neg (by omega), if_neg (by omega), if_pos ⟨rfl, rfl⟩, p3]
  have w_x4 : X6 (45 + 8 * (e + 1) + 4) 1 = 0 := by rw [r12 _ _ (by omega) (by omega) (by omega) (by omega), fX3 _ _ (by omega) (by omega) (by omega), fX2 _ _ (by omega) (by omega)]; exact X3z _ _ (by omega) (by omega) (by omega) (by omega)
  have w_x6 : X6 (45 + 8 * (e + 1) + 6) 1 = 0 := by rw [r12 _ _ (by omega) (by omega) (by omega) (by omega), fX3 _ _ (by omega) (by omega) (by omega), fX2 _ _ (by omega) (by omega)]; exact X3z _ _ (by omega) (by omega) (by omega) (by omega)
  have w_fS : ∀ a j, a ≠ 1 ∧ a ≠ 2 ∨ j < 336 → a ≠ 6 → a ≠ 8 → a ≠ 9 → ¬ (a = 3 ∧ j = e + 1) → S6 a j = S a j := fun a j y1 y2 y3 y4 y5 => by rw [r13 a j y1 y2 y3 y4]; exact S5o a j y1 y5
  exact ⟨w_t1, w_t2, w_ct, w_stay, w_pe, w_old, w_new, w_bits, w_own, w_un, w_rem, w_fX, w_x8, w_x1, w_x4, w_x6, w_fS⟩
