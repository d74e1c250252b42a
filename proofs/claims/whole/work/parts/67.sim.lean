/-! LEAK -/
theorem lk15 {hd : Nat → Prop} {j : Nat} : ∀ (c k n : Nat) (S : (Nat → Nat → Nat)), (¬ (zr_lk hd c k n S).2 15 j = 0) ↔ (¬ S 15 j = 0 ∨ (hd j ∧ k ≤ j ∧ j < k + c))
  | 0, k, n, S => by
    unfold zr_lk
    constructor
    · exact Or.inl
    · rintro (h | ⟨-, a, b⟩)
      · exact h
      · omega
  | c + 1, k, n, S => by
    by_cases hc : hd k ∧ S 15 k = 0
    · rw [zr_lk_t hc, lk15 c (k + 1) (n + 1)]
      by_cases e : j = k
      · subst e
        rw [zq_up_s]
        constructor
        · intro _; exact Or.inr ⟨hc.1, by omega, by omega⟩
        · intro _; exact Or.inl (by omega)
      · rw [zq_up_k e]
        constructor
        · rintro (h | ⟨a, b, d⟩)
          · exact Or.inl h
          · exact Or.inr ⟨a, by omega, by omega⟩
        · rintro (h | ⟨a, b, d⟩)
          · exact Or.inl h
          · exact Or.inr ⟨a, by omega, by omega⟩
    · rw [zr_lk_f hc, lk15 c (k + 1) n]
      constructor
      · rintro (h | ⟨a, b, d⟩)
        · exact Or.inl h
        · exact Or.inr ⟨a, by omega, by omega⟩
      · rintro (h | ⟨a, b, d⟩)
        · exact Or.inl h
        · by_cases e : j = k
          · subst e
            exact Or.inl fun z => hc ⟨a, z⟩
          · exact Or.inr ⟨a, by omega, by omega⟩
theorem lkn {hd : Nat → Prop} : ∀ (c k n : Nat) (S : (Nat → Nat → Nat)), (zr_lk hd c k n S).1 = n + zr_ct (fun j => @decide (hd j ∧ S 15 j = 0) (Classical.propDecidable _)) c k
  | 0, k, n, S => rfl
  | c + 1, k, n, S => by
    by_cases hc : hd k ∧ S 15 k = 0
    · rw [zr_lk_t hc, lkn c (k + 1) (n + 1), zr_ct, if_pos (@decide_eq_true _ (Classical.propDecidable _) hc)]
      have : zr_ct (fun j => @decide (hd j ∧ zq_up S 15 k 1 15 j = 0) (Classical.propDecidable _)) c (k + 1) = zr_ct (fun j => @decide (hd j ∧ S 15 j = 0) (Classical.propDecidable _)) c (k + 1) := zr_ct_congr _ _ fun j a b => by
        have e : zq_up S 15 k 1 15 j = S 15 j := zq_up_k (by omega)
        show @decide (hd j ∧ zq_up S 15 k 1 15 j = 0) (Classical.propDecidable _) = @decide (hd j ∧ S 15 j = 0) (Classical.propDecidable _)
        rw [e]
      rw [this]
      omega
    · rw [zr_lk_f hc, lkn c (k + 1) n, zr_ct, if_neg (by rw [@decide_eq_false _ (Classical.propDecidable _) hc]; decide)]
      omega
theorem hkl14 {k : Nat} : ∀ (xs : List Nat) (X : (Nat → Nat → Nat)), (¬ zc_hkl xs X 14 k = 0) ↔ (¬ X 14 k = 0 ∨ k ∈ xs)
  | [], X => by simp [zc_hkl]
  | x :: xs, X => by
    rw [zc_hkl, hkl14 xs, hk14, List.mem_cons, or_assoc]
theorem hkl15 {k : Nat} : ∀ (xs : List Nat) (X : (Nat → Nat → Nat)), zc_hkl xs X 15 k = X 15 k
  | [], X => rfl
  | x :: xs, X => by rw [zc_hkl, hkl15 xs, hk15]
theorem zc_lg.gl : ∀ (c e : Nat) (X : (Nat → Nat → Nat)), zc_lg X → 1 ≤ e → e + c ≤ 21 → (∀ f, e ≤ f → f < e + c → zc_ms X (45 + 8 * f) ∧ zc_pt X (45 + 8 * f)) → zc_lg (zc_gl c e X)
  | 0, e, X, h, _, _, _ => h
  | c + 1, e, X, h, h1, h2, hm => by
    obtain ⟨m1, m2⟩ := hm e (Nat.le_refl _) (by omega)
    have o : ∀ a j, 45 ≤ a → zc_fo X (45 + 8 * e) e a j = X a j := fun a j q => zc_fo_o (by omega)
    exact zc_lg.gl c (e + 1) _ (h.fo (by omega) (by omega) m1 m2) (by omega) (by omega) fun f a b => ⟨(hm f (by omega) (by omega)).1.same (by omega) o, (hm f (by omega) (by omega)).2.same (by omega) o⟩
/-- the listener after it has been told what Y says, and after the growth -/
theorem jL.told {X S Y T : (Nat → Nat → Nat)} (hA : jA X S) (hY : ∀ a j, 45 ≤ a → Y a j = X a j) (hT : ∀ a j, a ≠ 15 → a ≠ 16 → T a j = S a j) (ha : jle T (fun k => ¬ Y 14 k = 0) (fun e => ¬ Y 15 e = 0)) (hb : ∀ hk ht, jcl T hk ht → jle T hk ht → jlx Y hk ht) (hk : ∀ k, ¬ Y 14 k = 0 → 1 ≤ k ∧ k ≤ S 0 1) (he : ∀ e, ¬ Y 15 e = 0 → e < S 0 0) : jL (zc_gl (S 0 0 - 1) 1 Y) T := by
  have cl : ∀ hk ht, jcl T hk ht ↔ ∀ e, 1 ≤ e → e < S 0 0 → jec X e (S 5 e) hk ht := fun hk ht => by
    rw [← hA.cl]
    exact ⟨fun q => q.same fun a j x y => (hT a j x y).symm, fun q => q.same hT⟩
  obtain ⟨g1, -, -, g4, g5⟩ := jad.gl (S 5) (S 0 0 - 1) 1 Y (Nat.le_refl _) (fun f a b => (hA.2.1 f a (by omega)).2.2.2.2.1.same hY) (fun f h a b c => (hA.2.1 h (by omega) (by omega)).2.2.2.2.2.2.1 f a b)
  have g4' : ∀ hk ht, (∀ e, 1 ≤ e → e < S 0 0 → jec X e (S 5 e) hk ht) → jlx Y hk ht → jlx (zc_gl (S 0 0 - 1) 1 Y) hk ht := fun hk ht q r => g4 hk ht (fun f a b => (q f a (by omega)).same hY) r
  have bd := g4' (fun k => 1 ≤ k ∧ k ≤ S 0 1) (fun e => e < S 0 0) (fun e h1 h2 => by
    obtain ⟨a1, a2, a3, a4, a5, a6, a7, a8⟩ := hA.2.1 e h1 h2
    refine ⟨fun i hi _ => ⟨fun _ => h2, fun z => ?_⟩, fun q => ?_, fun q => ?_, fun _ _ => h2⟩
    · have := (a5.1 i hi).2
      show 1 ≤ _ ∧ _ ≤ _
      omega
    · show 1 ≤ _ ∧ _ ≤ _
      omega
    · show 1 ≤ _ ∧ _ ≤ _
      omega) ⟨hk, he⟩
  refine ⟨(cl _ _).mpr fun e h1 h2 => (g5 e h1 (by omega)).same fun a j q => (hY a j q).symm, ⟨fun k z => g1.1 k (ha.1 k z), fun e z => g1.2 e (ha.2 e z)⟩, fun hk ht q r => g4' hk ht ((cl _ _).mp q) (hb hk ht q r), ?_, ?_⟩
  · rw [hT _ _ (by decide) (by decide)]; exact bd.1
  · rw [hT _ _ (by decide) (by decide)]; exact bd.2
theorem J.leak {X S : (Nat → Nat → Nat)} {p : Nat} (h : J X S) (h0 : J0 S) (hp : p < 10) (lg : zc_lg (zc_lk X p)) : zc_hkl (zc_held X p) (zc_hx X p) 13 2 - X 13 2 = (zr_leak S p).1 ∧ J (zc_gl (S 0 0 - 1) 1 (zc_lk X p)) (zr_leak S p).2 ∧ J0 (zr_leak S p).2 := by
  obtain ⟨v1, v2⟩ := h.held hp
  have lp := h.lp
  obtain ⟨⟨b1, b2, b3, b4, b5, b6⟩, hP, hA, hQ, hL⟩ := h
  obtain ⟨p1, p2, p3, p4, p5, p6, p7, p8, p9⟩ := hP p hp
  obtain ⟨x1, x2, -, -⟩ := zc_hx_f (p := p) b2.1
  obtain ⟨e1, e2⟩ := hL.eq lp
  have H14 : ∀ k, (¬ zc_hkl (zc_held X p) (zc_hx X p) 14 k = 0) ↔ (¬ X 14 k = 0 ∨ k ∈ zc_held X p) := fun k => by rw [hkl14, x2 14 k (by omega)]
  have H15 : ∀ k, zc_hkl (zc_held X p) (zc_hx X p) 15 k = X 15 k := fun k => by rw [hkl15, x2 15 k (by omega)]
  have lgx : zc_lg (zc_hx X p) := b2.same x1 fun a j q => x2 a j (by omega)
  have lgh := zc_lg.hkl (zc_held X p) _ lgx (fun v hv => by have := v1 v hv; omega)
  have Y14 : ∀ k, (¬ zc_lk X p 14 k = 0) ↔ (¬ X 14 k = 0 ∨ k ∈ zc_held X p) := fun k => by
    unfold zc_lk
    split
    · rw [hs14]; exact H14 k
    · exact H14 k
  have Y15 : ∀ k, (¬ zc_lk X p 15 k = 0) ↔ (¬ X 15 k = 0 ∨ (S 6 p = 2 ∧ k = S 8 p)) := fun k => by
    unfold zc_lk
    rw [p1, p2]
    by_cases z : S 6 p = 2
    · rw [if_pos z, hs15, H15]
      simp [z]
    · rw [if_neg z, H15]
      simp [z]
  have Yo : ∀ a j, (26 ≤ a ∨ a < 13 ∨ 16 ≤ a ∧ a < 22) → zc_lk X p a j = X a j := fun a j q => zc_lk_o b2.1 q
  have Zo : ∀ a j, (26 ≤ a ∨ a < 13 ∨ 16 ≤ a ∧ a < 22) → zc_gl (S 0 0 - 1) 1 (zc_lk X p) a j = X a j := fun a j q => (zc_gl_o (by omega) _ _ _).trans (Yo a j q)
  have G0 : zr_bd (zr_gr 150 S) := zr_gr_bd _ _ b1.1
  have T15 : ∀ k, (¬ (zr_leak S p).2 15 k = 0) ↔ ¬ zc_lk X p 14 k = 0 := fun k => by
    have q : (zr_leak S p).2 15 k = (zr_lk (zr_hd S p) (S 0 1) 1 0 (zr_gr 150 S)).2 15 k := by
      unfold zr_leak
      simp only
      split
      · rw [zq_up_o (by decide)]
      · rfl
    rw [q, lk15, Y14, e1]
    constructor
    · rintro (z | ⟨z1, z2, z3⟩)
      · exact Or.inl z
      · exact Or.inr ((v2 k z2).mpr z1)
    · rintro (z | z)
      · exact Or.inl z
      · have := v1 k z
        exact Or.inr ⟨(v2 k this.1).mp z, by omega, by omega⟩
  have T16 : ∀ k, (¬ (zr_leak S p).2 16 k = 0) ↔ ¬ zc_lk X p 15 k = 0 := fun k => by
    rw [Y15, e2]
    unfold zr_leak
    simp only
    by_cases z : S 6 p = 2
    · rw [if_pos z]
      by_cases e : k = S 8 p
      · rw [e, zq_up_s]
        simp [z]
      · rw [zq_up_k e, zr_lk_o (by decide)]
        simp [e]
    · rw [if_neg z, zr_lk_o (by decide)]
      simp [z]
  have To : ∀ a j, a ≠ 15 → a ≠ 16 → (zr_leak S p).2 a j = S a j := fun a j q r => by
    unfold zr_leak
    simp only
    split
    · rw [zq_up_o r, zr_lk_o q, zr_gr_o q r]
    · rw [zr_lk_o q, zr_gr_o q r]
  have Tb : zr_bd (zr_leak S p).2 := by
    unfold zr_leak
    simp only
    split
    · exact (zr_lk_bd _ _ _ _ G0).up (by decide)
    · exact zr_lk_bd _ _ _ _ G0
  refine ⟨?_, ⟨⟨b1.same Tb (To _ _ (by omega) (by omega)) (fun q => by rw [To _ _ (by omega) (by omega)]; exact b1.2.2.1 q) (fun i => To _ _ (by omega) (by omega)) (fun i => To _ _ (by omega) (by omega)), ?_, ?_, ?_, ?_, ?_⟩, hP.same (fun _ _ _ _ => Zo _ _ (by omega)) (fun k j q => To k j (by omega) (by omega)) (To _ _ (by omega) (by omega)) (Nat.le_of_eq (To _ _ (by omega) (by omega)).symm), hA.same (fun _ _ _ => Zo _ _ (by omega)) (fun k j q => To k j (by omega) (by omega)) (To _ _ (by omega) (by omega)) (To _ _ (by omega) (by omega)) (Nat.le_of_eq (To _ _ (by omega) (by omega)).symm), hQ.same (fun _ _ _ => Zo _ _ (by omega)) (fun _ _ => Zo _ _ (by omega)) b1.2.2.2.1 (fun k j q => To k j (by omega) (by omega)) (To _ _ (by omega) (by omega)) (To _ _ (by omega) (by omega)) (Nat.le_of_eq (To _ _ (by omega) (by omega)).symm) (fun q hq s1 s2 => ⟨(To _ _ (by omega) (by omega)).trans s1, To _ _ (by omega) (by omega)⟩) (fun q hq s1 => (To _ _ (by omega) (by omega)).trans s1), jL.told hA (fun a j q => Yo a j (by omega)) To ⟨fun k z => (T15 k).mp z, fun e z => (T16 e).mp z⟩ (fun hk ht _ r => ⟨fun k z => r.1 k ((T15 k).mpr z), fun e z => r.2 e ((T16 e).mpr z)⟩) (fun k z => ?_) (fun e z => ?_)⟩, h0.same (To _ _ (by omega) (by omega)) (fun _ => ⟨fun k j q => To _ _ (by omega) (by omega), To _ _ (by omega) (by omega)⟩)⟩
  · have c1 : zc_hkl (zc_held X p) (zc_hx X p) 13 2 = X 13 2 + zr_ct (fun k => @decide (k ∈ zc_held X p ∧ X 14 k = 0) (Classical.propDecidable _)) 120 1 := by
      rw [lgh.2.1, b2.2.1]
      refine zr_ct_add _ _ fun k _ _ => ?_
      have q := H14 k
      generalize zc_hkl (zc_held X p) (zc_hx X p) 14 k = y at q
      by_cases z : X 14 k = 0
      · by_cases w : k ∈ zc_held X p
        · have y0 : ¬ y = 0 := q.mpr (Or.inr w)
          rw [@decide_eq_true _ (Classical.propDecidable _) (And.intro w z)]
          simp [z, y0, b01]
        · have y0 : y = 0 := Classical.not_not.mp fun v => by
            rcases q.mp v with v | v
            · exact v z
            · exact w v
          rw [@decide_eq_false _ (Classical.propDecidable _) (fun v => w v.1)]
          simp [z, y0, b01]
      · have y0 : ¬ y = 0 := q.mpr (Or.inl z)
        rw [@decide_eq_false _ (Classical.propDecidable _) (fun v => z v.2)]
        simp [z, y0, b01]
    have c2 : (zr_leak S p).1 = zr_ct (fun k => @decide (k ∈ zc_held X p ∧ X 14 k = 0) (Classical.propDecidable _)) 120 1 := by
      unfold zr_leak
      simp only
      rw [lkn, Nat.zero_add, zr_ct_upto (a := S 0 1) (b := 120) (by omega) (fun k a b => ?_)]
      · refine zr_ct_congr _ _ fun k a b => ?_
        have q : (zr_hd S p k ∧ zr_gr 150 S 15 k = 0) ↔ (k ∈ zc_held X p ∧ X 14 k = 0) := by
          rw [v2 k a]
          have := e1 k
          constructor
          · rintro ⟨z1, z2⟩
            exact ⟨z1, Classical.not_not.mp fun w => this.mp w z2⟩
          · rintro ⟨z1, z2⟩
            exact ⟨z1, Classical.not_not.mp fun w => this.mpr w z2⟩
        by_cases z : k ∈ zc_held X p ∧ X 14 k = 0
        · rw [@decide_eq_true _ (Classical.propDecidable _) z, @decide_eq_true _ (Classical.propDecidable _) (q.mpr z)]
        · rw [@decide_eq_false _ (Classical.propDecidable _) z, @decide_eq_false _ (Classical.propDecidable _) (fun w => z (q.mp w))]
      · exact @decide_eq_false _ (Classical.propDecidable _) fun w => by have := v1 k w.1; omega
    rw [c1, c2]
    omega
  · exact zc_lg.gl _ _ _ lg (Nat.le_refl _) (by omega) fun f a b => by
      obtain ⟨a1, a2, a3, a4, a5, a6, a7, a8⟩ := hA.2.1 f a (by omega)
      exact ⟨a3.same (by omega) fun a j q => Yo a j (by omega), a4.same (by omega) fun a j q => Yo a j (by omega)⟩
  · rw [Zo _ _ (by omega), To _ _ (by omega) (by omega)]; exact b3
  · rw [To _ _ (by omega) (by omega)]; exact b4
  · rw [Zo _ _ (by omega), To _ _ (by omega) (by omega)]; exact b5
  · rw [To _ _ (by omega) (by omega)]; exact b6
  · rcases (Y14 k).mp z with w | w
    · exact hL.2.2.2.1 k w
    · exact v1 k w
  · rcases (Y15 e).mp z with w | w
    · exact hL.2.2.2.2 e w
    · rw [w.2]; exact (p5 w.1).1
/-! FOUND -/
theorem J.found {X S : (Nat → Nat → Nat)} {p : Nat} (h : J X S) (h0 : J0 S) (hp : p < 10) (z : S 0 0 = 0) (hs : ¬ S 6 p = 1) : zr_found S p = (nI (S 0 1 + 1), (zr_found S p).2) ∧ J (zc_found X p) (zr_found S p).2 ∧ J0 (zr_found S p).2 ∧ (zr_found S p).2 0 0 = 1 := by
  obtain ⟨⟨b1, b2, b3, b4, b5, b6⟩, hP, hA, hQ, hL⟩ := h
  obtain ⟨p1, p2, p3, p4, p5, p6, p7, p8, p9⟩ := hP p hp
  obtain ⟨z1, z2, z3⟩ := h0 z
  have m10 := Nat.le_trans z2 (zr_ct_le _ _ _)
  obtain ⟨⟨q1, q2, q3⟩, q4, q5, q6, q7, q8, q9, q10, q11⟩ := hQ
  have ez : zr_found S p = (nI (S 0 1 + 1), zq_up (zq_up (zq_up (zq_up S 0 0 1) 0 1 (S 0 1 + 1)) 1 8 (S 0 1 + 1)) 6 p 2) := by
    unfold zr_found
    rw [if_pos ⟨z, hs⟩]
  rw [ez]
  dsimp only
  have eF : zc_found X p = zq_up (zq_up (zq_up (zq_up (zq_up (zq_up (zq_up (zc_new X 45 8) 0 9 (S 0 1 + 1)) 47 8 (S 0 1 + 1)) 48 8 0) 0 8 1) (2 + p) 0 2) (2 + p) 2 0) (2 + p) 1 0 := by
    rw [zc_found, b5]
    rfl
  rw [eF]
  generalize hT : zq_up (zq_up (zq_up (zq_up S 0 0 1) 0 1 (S 0 1 + 1)) 1 8 (S 0 1 + 1)) 6 p 2 = T
  generalize hF : zq_up (zq_up (zq_up (zq_up (zq_up (zq_up (zq_up (zc_new X 45 8) 0 9 (S 0 1 + 1)) 47 8 (S 0 1 + 1)) 48 8 0) 0 8 1) (2 + p) 0 2) (2 + p) 2 0) (2 + p) 1 0 = Y
  have to : ∀ a j, a ≠ 0 ∧ a ≠ 1 ∧ a ≠ 6 ∨ a = 0 ∧ 2 ≤ j ∨ a = 1 ∧ j ≠ 8 ∨ a = 6 ∧ j ≠ p → T a j = S a j := fun a j q => by rw [← hT]; exact (by simp only [zq_up, and_self, true_and, and_true, false_and, and_false, if_true, if_false] <;> (repeat (first | rw [if_neg (by omega)] | rw [if_pos (by omega)])))
  have t0 : T 0 0 = 1 := by rw [← hT]; exact (by simp only [zq_up, and_self, true_and, and_true, false_and, and_false, if_true, if_false] <;> (repeat (first | rw [if_neg (by omega)] | rw [if_pos (by omega)])))
  have t1 : T 0 1 = S 0 1 + 1 := by rw [← hT]; exact (by simp only [zq_up, and_self, true_and, and_true, false_and, and_false, if_true, if_false] <;> (repeat (first | rw [if_neg (by omega)] | rw [if_pos (by omega)])))
  have t8 : T 1 8 = S 0 1 + 1 := by rw [← hT]; exact (by simp only [zq_up, and_self, true_and, and_true, false_and, and_false, if_true, if_false] <;> (repeat (first | rw [if_neg (by omega)] | rw [if_pos (by omega)])))
  have t6 : T 6 p = 2 := by rw [← hT]; exact (by simp only [zq_up, and_self, true_and, and_true, false_and, and_false, if_true, if_false] <;> (repeat (first | rw [if_neg (by omega)] | rw [if_pos (by omega)])))
  have yo : ∀ a j, (a < 45 ∨ 53 ≤ a) → (a ≠ 0 ∨ j < 8) → a ≠ 2 + p ∨ 3 ≤ j → Y a j = X a j := fun a j x y w => by
    rw [← hF, zq_up, if_neg (by omega), zq_up, if_neg (by omega), zq_up, if_neg (by omega), zq_up, if_neg (by omega), zq_up, if_neg (by omega), zq_up, if_neg (by omega), zq_up, if_neg (by omega), zc_new_o (by omega)]
  have y8 : Y 0 8 = 1 := by rw [← hF]; exact (by simp only [zq_up, and_self, true_and, and_true, false_and, and_false, if_true, if_false] <;> (repeat (first | rw [if_neg (by omega)] | rw [if_pos (by omega)])))
  have y9 : Y 0 9 = S 0 1 + 1 := by rw [← hF]; exact (by simp only [zq_up, and_self, true_and, and_true, false_and, and_false, if_true, if_false] <;> (repeat (first | rw [if_neg (by omega)] | rw [if_pos (by omega)])))
  have yp0 : Y (2 + p) 0 = 2 := by rw [← hF]; exact (by simp only [zq_up, and_self, true_and, and_true, false_and, and_false, if_true, if_false] <;> (repeat (first | rw [if_neg (by omega)] | rw [if_pos (by omega)])))
  have yp1 : Y (2 + p) 1 = 0 := by rw [← hF]; exact (by simp only [zq_up, and_self, true_and, and_true, false_and, and_false, if_true, if_false] <;> (repeat (first | rw [if_neg (by omega)] | rw [if_pos (by omega)])))
  have yp2 : Y (2 + p) 2 = 0 := by rw [← hF]; exact (by simp only [zq_up, and_self, true_and, and_true, false_and, and_false, if_true, if_false] <;> (repeat (first | rw [if_neg (by omega)] | rw [if_pos (by omega)])))
  have y47 : ∀ n, Y 47 n = if n = 8 then S 0 1 + 1 else 0 := fun n => by
    rw [← hF, zq_up_o (by omega), zq_up_o (by omega), zq_up_o (by omega), zq_up_o (by omega), zq_up_o (by omega)]
    by_cases e : n = 8
    · rw [e, zq_up_s, if_pos rfl]
    · rw [zq_up_k e, if_neg e, zq_up_o (by omega), zc_new_z (by omega) (by omega) (by omega)]
  have y48 : ∀ n, Y 48 n = 0 := fun n => by
    rw [← hF, zq_up_o (by omega), zq_up_o (by omega), zq_up_o (by omega), zq_up_o (by omega)]
    by_cases e : n = 8
    · rw [e, zq_up_s]
    · rw [zq_up_k e, zq_up_o (by omega), zq_up_o (by omega), zc_new_z (by omega) (by omega) (by omega)]
  have bT : zr_bd T := by
    rw [← hT]
    exact (((b1.1.up (by omega)).up (by omega)).up (by omega)).up (by omega)
  have bY : zr_bd Y := by
    rw [← hF]
    exact (((((((zc_new_bd b2.1 (by omega)).up (by omega)).up (by omega)).up (by omega)).up (by omega)).up (by omega)).up (by omega)).up (by omega)
  have pl : ∀ k, zr_pl T k = zr_pl S k := zr_pl_congr (to _ _ (by omega)) (fun i _ => to _ _ (by omega)) (fun i _ => to _ _ (by omega))
  have n11 : S 0 11 = 0 := q10 z
  have pn : ∀ k, zr_pl S k = [] := fun k => by
    unfold zr_pl
    rw [n11]
    rfl
  have ls : ∀ q, q = 16 ∨ q = 18 ∨ q = 20 → zc_ls Y q = zc_ls X q := fun q hq => zc_ls_congr (yo _ _ (by omega) (by omega) (by omega)) (fun i _ => yo _ _ (by omega) (by omega) (by omega))
  have n15 : S 0 15 = 0 := by have := hA.2.2.1; omega
  have cT : ∀ hk ht, jcl T hk ht := fun hk ht => by
    unfold jcl
    rw [to 0 15 (by omega), n15, t0]
    exact ⟨fun m hm => by omega, fun e a b => by omega⟩
  have cS : ∀ hk ht, jcl S hk ht := fun hk ht => by
    unfold jcl
    rw [n15, z]
    exact ⟨fun m hm => by omega, fun e a b => by omega⟩
  have le : ∀ hk ht, jle T hk ht ↔ jle S hk ht := fun hk ht => by
    have t15 : ∀ j, T 15 j = S 15 j := fun j => to 15 j (by omega)
    have t16 : ∀ j, T 16 j = S 16 j := fun j => to 16 j (by omega)
    unfold jle
    simp only [t15, t16]
  refine ⟨rfl, ⟨⟨b1.same bT (to _ _ (by omega)) (fun q => by rw [to _ _ (by omega)]; exact b1.2.2.1 q) (fun i => to _ _ (by omega)) (fun i => to _ _ (by omega)), b2.same bY (fun a j q => yo _ _ (by omega) (by omega) (by omega)), by rw [y8, t0], by omega, by rw [y9, t1], by omega⟩, fun q hq => ?_, ⟨fun e he => ?_, fun e h1 he => by omega, ?_⟩, ?_, ?_⟩, fun w => by omega, t0⟩
  · obtain ⟨a1, a2, a3, a4, a5, a6, a7, a8, a9⟩ := hP q hq
    obtain ⟨w1, w2⟩ := a9 z
    by_cases e : q = p
    · subst e
      rw [yp0, yp1, yp2, t6, to 8 _ (by omega), to 9 _ (by omega), to 7 _ (by omega), w1, w2, t0, t1, yo _ 3 (by omega) (by omega) (by omega)]
      refine ⟨rfl, rfl, rfl, a4, fun _ => ⟨by omega, ?_⟩, by omega, by omega, by omega, fun _ => ⟨rfl, rfl⟩⟩
      show ¬ T 1 8 = 0
      omega
    · rw [yo _ 0 (by omega) (by omega) (by omega), yo _ 1 (by omega) (by omega) (by omega), yo _ 2 (by omega) (by omega) (by omega), yo _ 3 (by omega) (by omega) (by omega), to 6 _ (by omega), to 8 _ (by omega), to 9 _ (by omega), to 7 _ (by omega), t0, t1]
      refine ⟨a1, a2, a3, a4, fun w => by have := (a5 w).1; omega, a6, by omega, a8, fun _ => ⟨w1, w2⟩⟩
  · rw [t0] at he
    have : e = 0 := by omega
    subst this
    have k1 : ∀ n, T 1 (0 * 16 + n) = if n = 8 then S 0 1 + 1 else 0 := fun n => by
      rw [Nat.zero_mul, Nat.zero_add]
      by_cases e : n = 8
      · rw [e, t8, if_pos rfl]
      · rw [to _ _ (by omega), if_neg e, (z1 n).1]
    have k2 : ∀ n, T 2 (0 * 16 + n) = 0 := fun n => by
      rw [to _ _ (by omega), (z1 _).2]
    refine ⟨fun n h1 h2 => ⟨?_, ?_⟩, fun n h1 h2 => ?_, fun l hl => k2 _, fun n l h1 h2 h3 w => ?_, fun n h1 h2 w => ?_, fun n l h1 h2 h3 w => ?_⟩
    · rw [k1]; exact y47 n
    · rw [k2]; exact y48 n
    · show T 1 (0 * 16 + n) ≤ T 0 1
      rw [k1, t1]
      split <;> omega
    · have w : ¬ zq_bt (T 2 (0 * 16 + n)) l = 0 := w
      rw [k2] at w
      exact absurd (by unfold zq_bt; rw [Nat.zero_div]) w
    · have w : ¬ T 1 (0 * 16 + n) = 0 := w
      rw [k1, if_neg (by omega)] at w
      exact absurd rfl w
    · have w : ¬ zq_bt (T 2 (0 * 16 + n)) l = 0 := w
      rw [k2] at w
      exact absurd (by unfold zq_bt; rw [Nat.zero_div]) w
  · unfold jA3
    rw [to 0 15 (by omega), n15, t0]
    exact ⟨by omega, fun m hm => by omega, fun e i h1 h2 => by omega⟩
  · unfold jQ
    rw [to 0 11 (by omega), n11, t0]
    simp only [pl, pn, ls 16 (by omega), ls 18 (by omega), ls 20 (by omega), q1, q2, q3]
    exact ⟨⟨trivial, trivial, trivial⟩, fun i hi => by omega, fun k => List.nodup_nil, fun i hi => by omega, fun r hr _ => by rw [yo _ _ (by omega) (by omega) (by omega)]; exact q7 r hr (by rw [pn]; exact List.not_mem_nil), fun i hi => by omega, fun i hi => by omega, fun w => by omega, Nat.zero_le _⟩
  · obtain ⟨l1, l2, l3, l4, l5⟩ := hL
    have x14 : ∀ k, Y 14 k = X 14 k := fun k => yo _ _ (by omega) (by omega) (by omega)
    have x15 : ∀ k, Y 15 k = X 15 k := fun k => yo _ _ (by omega) (by omega) (by omega)
    unfold jL jlx
    simp only [x14, x15, le, t0, t1]
    exact ⟨cT _ _, l2, fun hk ht _ r => l3 hk ht (cS _ _) r, fun k w => by have := l4 k w; omega, fun e w => by have := l5 e w; omega⟩
