/-! WHAT EACH CALL DOES TO BOTH -/
/-- before the founding -/
def J0 (S : (Nat → Nat → Nat)) : Prop := S 0 0 = 0 → (∀ j, S 1 j = 0 ∧ S 2 j = 0) ∧ S 0 1 ≤ zr_ct (fun p => S 6 p == 1) 10 0 ∧ ∀ p, p < 10 → S 6 p = 0 ∨ S 6 p = 1
theorem J0.same {S T : (Nat → Nat → Nat)} (h : J0 S) (h0 : T 0 0 = S 0 0) (h1 : S 0 0 = 0 → (∀ k j, k = 1 ∨ k = 2 ∨ k = 6 → T k j = S k j) ∧ T 0 1 = S 0 1) : J0 T := by
  intro z
  rw [h0] at z
  obtain ⟨a, b, c⟩ := h z
  obtain ⟨q1, q2⟩ := h1 z
  simp only [q1 1 _ (Or.inl rfl), q1 2 _ (Or.inr (Or.inl rfl)), q1 6 _ (Or.inr (Or.inr rfl)), q2]
  exact ⟨a, b, c⟩
theorem J.publish {X S : (Nat → Nat → Nat)} {p : Nat} (h : J X S) (h0 : J0 S) (hp : p < 10) : (zc_publish X p).1 = (zr_publish S p).1 ∧ J (zc_publish X p).2 (zr_publish S p).2 ∧ J0 (zr_publish S p).2 := by
  have hh := h
  obtain ⟨⟨b1, b2, b3, b4, b5, b6⟩, hP, hA, hQ, hL⟩ := h
  obtain ⟨p1, p2, p3, p4, p5, p6, p7, p8, p9⟩ := hP p hp
  unfold zc_publish zr_publish
  rw [p1, b5]
  by_cases c1 : S 6 p = 1 ∨ S 6 p = 2
  · rw [if_pos c1, if_pos c1]
    exact ⟨rfl, hh, h0⟩
  · rw [if_neg c1, if_neg c1]
    by_cases c2 : S 0 1 = 120
    · rw [if_pos c2, if_pos (by omega)]
      exact ⟨rfl, hh, h0⟩
    · rw [if_neg c2, if_neg (by omega)]
      dsimp only
      refine ⟨rfl, ⟨⟨b1.same (((b1.1.up (by omega)).up (by omega)).up (by omega)) (by simp only [zq_up, and_self, true_and, and_true, false_and, and_false, if_true, if_false] <;> (repeat (first | rw [if_neg (by omega)] | rw [if_pos (by omega)]))) (fun q => ?_) (fun i => (by simp only [zq_up, and_self, true_and, and_true, false_and, and_false, if_true, if_false] <;> (repeat (first | rw [if_neg (by omega)] | rw [if_pos (by omega)])))) (fun i => (by simp only [zq_up, and_self, true_and, and_true, false_and, and_false, if_true, if_false] <;> (repeat (first | rw [if_neg (by omega)] | rw [if_pos (by omega)])))), b2.same (((b2.1.up (by omega)).up (by omega)).up (by omega)) (fun a j q => (by simp only [zq_up, and_self, true_and, and_true, false_and, and_false, if_true, if_false] <;> (repeat (first | rw [if_neg (by omega)] | rw [if_pos (by omega)])))), ?_, ?_, ?_, ?_⟩, fun q hq => ?_, hA.same (fun a j q => (by simp only [zq_up, and_self, true_and, and_true, false_and, and_false, if_true, if_false] <;> (repeat (first | rw [if_neg (by omega)] | rw [if_pos (by omega)])))) (fun k j q => (by simp only [zq_up, and_self, true_and, and_true, false_and, and_false, if_true, if_false] <;> (repeat (first | rw [if_neg (by omega)] | rw [if_pos (by omega)])))) (by simp only [zq_up, and_self, true_and, and_true, false_and, and_false, if_true, if_false] <;> (repeat (first | rw [if_neg (by omega)] | rw [if_pos (by omega)]))) (by simp only [zq_up, and_self, true_and, and_true, false_and, and_false, if_true, if_false] <;> (repeat (first | rw [if_neg (by omega)] | rw [if_pos (by omega)]))) ?_, hQ.same (fun a j q => (by simp only [zq_up, and_self, true_and, and_true, false_and, and_false, if_true, if_false] <;> (repeat (first | rw [if_neg (by omega)] | rw [if_pos (by omega)])))) (fun q hq => (by simp only [zq_up, and_self, true_and, and_true, false_and, and_false, if_true, if_false] <;> (repeat (first | rw [if_neg (by omega)] | rw [if_pos (by omega)])))) b1.2.2.2.1 (fun k j q => (by simp only [zq_up, and_self, true_and, and_true, false_and, and_false, if_true, if_false] <;> (repeat (first | rw [if_neg (by omega)] | rw [if_pos (by omega)])))) (by simp only [zq_up, and_self, true_and, and_true, false_and, and_false, if_true, if_false] <;> (repeat (first | rw [if_neg (by omega)] | rw [if_pos (by omega)]))) (by simp only [zq_up, and_self, true_and, and_true, false_and, and_false, if_true, if_false] <;> (repeat (first | rw [if_neg (by omega)] | rw [if_pos (by omega)]))) ?_ (fun q hq s1 s2 => ?_) (fun q hq s1 => ?_), hL.same (fun a j q => (by simp only [zq_up, and_self, true_and, and_true, false_and, and_false, if_true, if_false] <;> (repeat (first | rw [if_neg (by omega)] | rw [if_pos (by omega)])))) (fun k j q => (by simp only [zq_up, and_self, true_and, and_true, false_and, and_false, if_true, if_false] <;> (repeat (first | rw [if_neg (by omega)] | rw [if_pos (by omega)])))) (by simp only [zq_up, and_self, true_and, and_true, false_and, and_false, if_true, if_false] <;> (repeat (first | rw [if_neg (by omega)] | rw [if_pos (by omega)]))) (by simp only [zq_up, and_self, true_and, and_true, false_and, and_false, if_true, if_false] <;> (repeat (first | rw [if_neg (by omega)] | rw [if_pos (by omega)]))) ?_⟩, ?_⟩
      · have := b1.2.2.1 q
        rw [show (zq_up (zq_up (zq_up S 0 1 (S 0 1 + 1)) 7 p (S 0 1 + 1)) 6 p 1) 9 q = S 9 q from (by simp only [zq_up, and_self, true_and, and_true, false_and, and_false, if_true, if_false] <;> (repeat (first | rw [if_neg (by omega)] | rw [if_pos (by omega)])))]
        exact this
      · exact Eq.trans (by simp only [zq_up, and_self, true_and, and_true, false_and, and_false, if_true, if_false] <;> (repeat (first | rw [if_neg (by omega)] | rw [if_pos (by omega)]))) (Eq.trans b3 (Eq.symm (by simp only [zq_up, and_self, true_and, and_true, false_and, and_false, if_true, if_false] <;> (repeat (first | rw [if_neg (by omega)] | rw [if_pos (by omega)])))))
      · exact Nat.le_trans (Nat.le_of_eq (by simp only [zq_up, and_self, true_and, and_true, false_and, and_false, if_true, if_false] <;> (repeat (first | rw [if_neg (by omega)] | rw [if_pos (by omega)])))) b4
      · exact Eq.trans (b := S 0 1 + 1) (by simp only [zq_up, and_self, true_and, and_true, false_and, and_false, if_true, if_false] <;> (repeat (first | rw [if_neg (by omega)] | rw [if_pos (by omega)]))) (Eq.symm (by simp only [zq_up, and_self, true_and, and_true, false_and, and_false, if_true, if_false] <;> (repeat (first | rw [if_neg (by omega)] | rw [if_pos (by omega)]))))
      · exact Nat.le_trans (Nat.le_of_eq (m := S 0 1 + 1) (by simp only [zq_up, and_self, true_and, and_true, false_and, and_false, if_true, if_false] <;> (repeat (first | rw [if_neg (by omega)] | rw [if_pos (by omega)])))) (by omega)
      · obtain ⟨a1, a2, a3, a4, a5, a6, a7, a8, a9⟩ := hP q hq
        by_cases e : q = p
        · subst e
          refine ⟨Eq.trans (b := 1) (by simp only [zq_up, and_self, true_and, and_true, false_and, and_false, if_true, if_false] <;> (repeat (first | rw [if_neg (by omega)] | rw [if_pos (by omega)]))) (Eq.symm (by simp only [zq_up, and_self, true_and, and_true, false_and, and_false, if_true, if_false] <;> (repeat (first | rw [if_neg (by omega)] | rw [if_pos (by omega)])))), Eq.trans (by simp only [zq_up, and_self, true_and, and_true, false_and, and_false, if_true, if_false] <;> (repeat (first | rw [if_neg (by omega)] | rw [if_pos (by omega)]))) (Eq.trans a2 (Eq.symm (by simp only [zq_up, and_self, true_and, and_true, false_and, and_false, if_true, if_false] <;> (repeat (first | rw [if_neg (by omega)] | rw [if_pos (by omega)]))))), Eq.trans (by simp only [zq_up, and_self, true_and, and_true, false_and, and_false, if_true, if_false] <;> (repeat (first | rw [if_neg (by omega)] | rw [if_pos (by omega)]))) (Eq.trans a3 (Eq.symm (by simp only [zq_up, and_self, true_and, and_true, false_and, and_false, if_true, if_false] <;> (repeat (first | rw [if_neg (by omega)] | rw [if_pos (by omega)]))))), Eq.trans (b := S 0 1 + 1) (by simp only [zq_up, and_self, true_and, and_true, false_and, and_false, if_true, if_false] <;> (repeat (first | rw [if_neg (by omega)] | rw [if_pos (by omega)]))) (Eq.symm (by simp only [zq_up, and_self, true_and, and_true, false_and, and_false, if_true, if_false] <;> (repeat (first | rw [if_neg (by omega)] | rw [if_pos (by omega)])))), fun z => ?_, fun _ => ?_, ?_, ?_, ?_⟩
          · rw [show (zq_up (zq_up (zq_up S 0 1 (S 0 1 + 1)) 7 q (S 0 1 + 1)) 6 q 1) 6 q = 1 from (by simp only [zq_up, and_self, true_and, and_true, false_and, and_false, if_true, if_false] <;> (repeat (first | rw [if_neg (by omega)] | rw [if_pos (by omega)])))] at z
            omega
          · rw [show (zq_up (zq_up (zq_up S 0 1 (S 0 1 + 1)) 7 q (S 0 1 + 1)) 6 q 1) 7 q = S 0 1 + 1 from (by simp only [zq_up, and_self, true_and, and_true, false_and, and_false, if_true, if_false] <;> (repeat (first | rw [if_neg (by omega)] | rw [if_pos (by omega)])))]
            omega
          · rw [show (zq_up (zq_up (zq_up S 0 1 (S 0 1 + 1)) 7 q (S 0 1 + 1)) 6 q 1) 7 q = S 0 1 + 1 from (by simp only [zq_up, and_self, true_and, and_true, false_and, and_false, if_true, if_false] <;> (repeat (first | rw [if_neg (by omega)] | rw [if_pos (by omega)]))), show (zq_up (zq_up (zq_up S 0 1 (S 0 1 + 1)) 7 q (S 0 1 + 1)) 6 q 1) 0 1 = S 0 1 + 1 from (by simp only [zq_up, and_self, true_and, and_true, false_and, and_false, if_true, if_false] <;> (repeat (first | rw [if_neg (by omega)] | rw [if_pos (by omega)])))]
            omega
          · exact Nat.lt_of_le_of_lt (Nat.le_of_eq (by simp only [zq_up, and_self, true_and, and_true, false_and, and_false, if_true, if_false] <;> (repeat (first | rw [if_neg (by omega)] | rw [if_pos (by omega)])))) a8
          · intro z
            rw [show (zq_up (zq_up (zq_up S 0 1 (S 0 1 + 1)) 7 q (S 0 1 + 1)) 6 q 1) 0 0 = S 0 0 from (by simp only [zq_up, and_self, true_and, and_true, false_and, and_false, if_true, if_false] <;> (repeat (first | rw [if_neg (by omega)] | rw [if_pos (by omega)])))] at z
            exact ⟨Eq.trans (by simp only [zq_up, and_self, true_and, and_true, false_and, and_false, if_true, if_false] <;> (repeat (first | rw [if_neg (by omega)] | rw [if_pos (by omega)]))) (a9 z).1, Eq.trans (by simp only [zq_up, and_self, true_and, and_true, false_and, and_false, if_true, if_false] <;> (repeat (first | rw [if_neg (by omega)] | rw [if_pos (by omega)]))) (a9 z).2⟩
        · have t6 : (zq_up (zq_up (zq_up S 0 1 (S 0 1 + 1)) 7 p (S 0 1 + 1)) 6 p 1) 6 q = S 6 q := (by simp only [zq_up, and_self, true_and, and_true, false_and, and_false, if_true, if_false] <;> (repeat (first | rw [if_neg (by omega)] | rw [if_pos (by omega)])))
          have t7 : (zq_up (zq_up (zq_up S 0 1 (S 0 1 + 1)) 7 p (S 0 1 + 1)) 6 p 1) 7 q = S 7 q := (by simp only [zq_up, and_self, true_and, and_true, false_and, and_false, if_true, if_false] <;> (repeat (first | rw [if_neg (by omega)] | rw [if_pos (by omega)])))
          have t8 : (zq_up (zq_up (zq_up S 0 1 (S 0 1 + 1)) 7 p (S 0 1 + 1)) 6 p 1) 8 q = S 8 q := (by simp only [zq_up, and_self, true_and, and_true, false_and, and_false, if_true, if_false] <;> (repeat (first | rw [if_neg (by omega)] | rw [if_pos (by omega)])))
          have t9 : (zq_up (zq_up (zq_up S 0 1 (S 0 1 + 1)) 7 p (S 0 1 + 1)) 6 p 1) 9 q = S 9 q := (by simp only [zq_up, and_self, true_and, and_true, false_and, and_false, if_true, if_false] <;> (repeat (first | rw [if_neg (by omega)] | rw [if_pos (by omega)])))
          have t0 : (zq_up (zq_up (zq_up S 0 1 (S 0 1 + 1)) 7 p (S 0 1 + 1)) 6 p 1) 0 0 = S 0 0 := (by simp only [zq_up, and_self, true_and, and_true, false_and, and_false, if_true, if_false] <;> (repeat (first | rw [if_neg (by omega)] | rw [if_pos (by omega)])))
          have tm : (zq_up (zq_up (zq_up S 0 1 (S 0 1 + 1)) 7 p (S 0 1 + 1)) 6 p 1) 0 1 = S 0 1 + 1 := (by simp only [zq_up, and_self, true_and, and_true, false_and, and_false, if_true, if_false] <;> (repeat (first | rw [if_neg (by omega)] | rw [if_pos (by omega)])))
          have t1 : ∀ j, (zq_up (zq_up (zq_up S 0 1 (S 0 1 + 1)) 7 p (S 0 1 + 1)) 6 p 1) 1 j = S 1 j := fun j => (by simp only [zq_up, and_self, true_and, and_true, false_and, and_false, if_true, if_false] <;> (repeat (first | rw [if_neg (by omega)] | rw [if_pos (by omega)])))
          have x0 : ∀ j, (zq_up (zq_up (zq_up X (2 + p) 0 1) 0 9 (S 0 1 + 1)) (2 + p) 3 (S 0 1 + 1)) (2 + q) j = X (2 + q) j := fun j => (by simp only [zq_up, and_self, true_and, and_true, false_and, and_false, if_true, if_false] <;> (repeat (first | rw [if_neg (by omega)] | rw [if_pos (by omega)])))
          rw [t6, t7, t8, t9, t0, tm, t1, x0, x0, x0, x0]
          exact ⟨a1, a2, a3, a4, a5, a6, by omega, a8, a9⟩
      · exact Nat.le_trans (Nat.le_succ _) (Nat.le_of_eq (Eq.symm (a := S 0 1 + 1) (Eq.symm (by simp only [zq_up, and_self, true_and, and_true, false_and, and_false, if_true, if_false] <;> (repeat (first | rw [if_neg (by omega)] | rw [if_pos (by omega)]))))))
      · exact Nat.le_trans (Nat.le_succ _) (Nat.le_of_eq (Eq.symm (a := S 0 1 + 1) (Eq.symm (by simp only [zq_up, and_self, true_and, and_true, false_and, and_false, if_true, if_false] <;> (repeat (first | rw [if_neg (by omega)] | rw [if_pos (by omega)]))))))
      · have e : q ≠ p := fun z => c1 (Or.inr (z ▸ s1))
        exact ⟨Eq.trans (by simp only [zq_up, and_self, true_and, and_true, false_and, and_false, if_true, if_false] <;> (repeat (first | rw [if_neg (by omega)] | rw [if_pos (by omega)]))) s1, (by simp only [zq_up, and_self, true_and, and_true, false_and, and_false, if_true, if_false] <;> (repeat (first | rw [if_neg (by omega)] | rw [if_pos (by omega)])))⟩
      · have e : q ≠ p := fun z => c1 (Or.inl (z ▸ s1))
        exact Eq.trans (by simp only [zq_up, and_self, true_and, and_true, false_and, and_false, if_true, if_false] <;> (repeat (first | rw [if_neg (by omega)] | rw [if_pos (by omega)]))) s1
      · exact Nat.le_trans (Nat.le_succ _) (Nat.le_of_eq (Eq.symm (a := S 0 1 + 1) (Eq.symm (by simp only [zq_up, and_self, true_and, and_true, false_and, and_false, if_true, if_false] <;> (repeat (first | rw [if_neg (by omega)] | rw [if_pos (by omega)]))))))
      · intro z
        rw [show (zq_up (zq_up (zq_up S 0 1 (S 0 1 + 1)) 7 p (S 0 1 + 1)) 6 p 1) 0 0 = S 0 0 from (by simp only [zq_up, and_self, true_and, and_true, false_and, and_false, if_true, if_false] <;> (repeat (first | rw [if_neg (by omega)] | rw [if_pos (by omega)])))] at z
        obtain ⟨z1, z2, z3⟩ := h0 z
        refine ⟨fun j => ⟨Eq.trans (by simp only [zq_up, and_self, true_and, and_true, false_and, and_false, if_true, if_false] <;> (repeat (first | rw [if_neg (by omega)] | rw [if_pos (by omega)]))) (z1 j).1, Eq.trans (by simp only [zq_up, and_self, true_and, and_true, false_and, and_false, if_true, if_false] <;> (repeat (first | rw [if_neg (by omega)] | rw [if_pos (by omega)]))) (z1 j).2⟩, ?_, fun q hq => ?_⟩
        · rw [show (zq_up (zq_up (zq_up S 0 1 (S 0 1 + 1)) 7 p (S 0 1 + 1)) 6 p 1) 0 1 = S 0 1 + 1 from (by simp only [zq_up, and_self, true_and, and_true, false_and, and_false, if_true, if_false] <;> (repeat (first | rw [if_neg (by omega)] | rw [if_pos (by omega)])))]
          rw [zr_ct_set (f := fun p => S 6 p == 1) (k := p) (by simp; omega) (by simp [zq_up]) (fun j hj => congrArg (· == 1) (show (zq_up (zq_up (zq_up S 0 1 (S 0 1 + 1)) 7 p (S 0 1 + 1)) 6 p 1) 6 j = S 6 j from (by simp only [zq_up, and_self, true_and, and_true, false_and, and_false, if_true, if_false] <;> (repeat (first | rw [if_neg (by omega)] | rw [if_pos (by omega)]))))) 10 0 (by omega) (by omega)]
          omega
        · by_cases e : q = p
          · exact Or.inr (Eq.trans (b := 1) (by simp only [zq_up, and_self, true_and, and_true, false_and, and_false, if_true, if_false] <;> (repeat (first | rw [if_neg (by omega)] | rw [if_pos (by omega)]))) rfl)
          · rw [show (zq_up (zq_up (zq_up S 0 1 (S 0 1 + 1)) 7 p (S 0 1 + 1)) 6 p 1) 6 q = S 6 q from (by simp only [zq_up, and_self, true_and, and_true, false_and, and_false, if_true, if_false] <;> (repeat (first | rw [if_neg (by omega)] | rw [if_pos (by omega)])))]
            exact z3 q hq
/-! a proposal more -/
theorem zr_pl_pp {S : (Nat → Nat → Nat)} {k w c q : Nat} : zr_pl (zr_pp S k w c) q = if q = k then zr_pl S q ++ [w] else zr_pl S q := by
  have e0 : zr_pp S k w c 0 11 = S 0 11 + 1 := by unfold zr_pp; exact (by simp only [zq_up, and_self, true_and, and_true, false_and, and_false, if_true, if_false] <;> (repeat (first | rw [if_neg (by omega)] | rw [if_pos (by omega)])))
  have e10 : zr_pp S k w c 10 (S 0 11) = k := by unfold zr_pp; exact (by simp only [zq_up, and_self, true_and, and_true, false_and, and_false, if_true, if_false] <;> (repeat (first | rw [if_neg (by omega)] | rw [if_pos (by omega)])))
  have e11 : zr_pp S k w c 11 (S 0 11) = w := by unfold zr_pp; exact (by simp only [zq_up, and_self, true_and, and_true, false_and, and_false, if_true, if_false] <;> (repeat (first | rw [if_neg (by omega)] | rw [if_pos (by omega)])))
  have l10 : ∀ i, i < S 0 11 → zr_pp S k w c 10 i = S 10 i := fun i hi => by unfold zr_pp; exact (by simp only [zq_up, and_self, true_and, and_true, false_and, and_false, if_true, if_false] <;> (repeat (first | rw [if_neg (by omega)] | rw [if_pos (by omega)])))
  have l11 : ∀ i, i < S 0 11 → zr_pp S k w c 11 i = S 11 i := fun i hi => by unfold zr_pp; exact (by simp only [zq_up, and_self, true_and, and_true, false_and, and_false, if_true, if_false] <;> (repeat (first | rw [if_neg (by omega)] | rw [if_pos (by omega)])))
  unfold zr_pl
  rw [e0, List.range_succ, List.filter_append, List.map_append]
  have e1 : (List.range (S 0 11)).filter (fun i => zr_pp S k w c 10 i == q) = (List.range (S 0 11)).filter (fun i => S 10 i == q) := List.filter_congr fun i hi => by rw [l10 i (List.mem_range.mp hi)]
  have e2 : ((List.range (S 0 11)).filter (fun i => S 10 i == q)).map (zr_pp S k w c 11) = ((List.range (S 0 11)).filter (fun i => S 10 i == q)).map (S 11) := List.map_congr_left fun i hi => l11 i (List.mem_range.mp (List.mem_filter.mp hi).1)
  rw [e1, e2]
  by_cases h : q = k
  · rw [if_pos h, List.filter_cons, if_pos (by simp [e10, h])]
    simp [e11]
  · rw [if_neg h, List.filter_cons, if_neg (by simp [e10]; exact fun z => h z.symm)]
    simp
theorem zc_ls_ap {X : (Nat → Nat → Nat)} {k len w : Nat} (h : X k 1 < len) : zc_ls (zc_ap X k len w) k = zc_ls X k ++ [w] := by
  unfold zc_ls
  rw [zc_ap_n h, List.range_succ, List.map_append]
  congr 1
  · exact List.map_congr_left fun i hi => zc_ap_lo (List.mem_range.mp hi)
  · simp [zc_ap_v h]
theorem zc_ls_apo {X : (Nat → Nat → Nat)} {k len w q : Nat} (h1 : q ≠ k) (h2 : q ≠ k + 1) (h3 : q + 1 ≠ k) : zc_ls (zc_ap X k len w) q = zc_ls X q := zc_ls_congr (zc_ap_o h1 h2) (fun i _ => zc_ap_o h3 (by omega))
theorem jQ.pp {X S Y : (Nat → Nat → Nat)} {k w c : Nat} (h : jQ X S) (hk : k ≤ 2) (hw : w ∉ zr_pl S k) (hs : ¬ S 0 0 = 0) (e : ∀ q, q ≤ 2 → zc_ls Y (16 + 2 * q) = if q = k then zc_ls X (16 + 2 * q) ++ [w] else zc_ls X (16 + 2 * q))
    (h0 : k = 0 → S 6 w = 2 ∧ S 8 w + 1 = S 0 0 ∧ 1 ≤ c ∧ c ≤ S 0 1 ∧ Y (2 + w) 4 = c) (h4 : ∀ p, p < 10 → (k = 0 ∧ p = w) ∨ Y (2 + p) 4 = X (2 + p) 4) (h1 : k = 1 → w < 8 ∧ ¬ S 1 ((S 0 0 - 1) * 16 + (8 + w)) = 0) (h2 : k = 2 → S 6 w = 1 ∧ (zr_pl S 2).length + 1 ≤ zr_bl S (S 0 0 - 1) 8 8 + (zr_pl S 1).length) (h10 : ∀ i, S 11 i < 10) : jQ Y (zr_pp S k w c) := by
  obtain ⟨⟨q1, q2, q3⟩, q4, q5, q6, q7, q8, q9, q10, q11⟩ := h
  have e0 : zr_pp S k w c 0 11 = S 0 11 + 1 := by unfold zr_pp; exact (by simp only [zq_up, and_self, true_and, and_true, false_and, and_false, if_true, if_false] <;> (repeat (first | rw [if_neg (by omega)] | rw [if_pos (by omega)])))
  have en : zr_pp S k w c 0 0 = S 0 0 := by unfold zr_pp; exact (by simp only [zq_up, and_self, true_and, and_true, false_and, and_false, if_true, if_false] <;> (repeat (first | rw [if_neg (by omega)] | rw [if_pos (by omega)])))
  have em : zr_pp S k w c 0 1 = S 0 1 := by unfold zr_pp; exact (by simp only [zq_up, and_self, true_and, and_true, false_and, and_false, if_true, if_false] <;> (repeat (first | rw [if_neg (by omega)] | rw [if_pos (by omega)])))
  have e10 : zr_pp S k w c 10 (S 0 11) = k := by unfold zr_pp; exact (by simp only [zq_up, and_self, true_and, and_true, false_and, and_false, if_true, if_false] <;> (repeat (first | rw [if_neg (by omega)] | rw [if_pos (by omega)])))
  have e11 : zr_pp S k w c 11 (S 0 11) = w := by unfold zr_pp; exact (by simp only [zq_up, and_self, true_and, and_true, false_and, and_false, if_true, if_false] <;> (repeat (first | rw [if_neg (by omega)] | rw [if_pos (by omega)])))
  have e12 : zr_pp S k w c 12 (S 0 11) = c := by unfold zr_pp; exact (by simp only [zq_up, and_self, true_and, and_true, false_and, and_false, if_true, if_false] <;> (repeat (first | rw [if_neg (by omega)] | rw [if_pos (by omega)])))
  have l10 : ∀ i, i ≠ S 0 11 → zr_pp S k w c 10 i = S 10 i := fun i hi => by unfold zr_pp; exact (by simp only [zq_up, and_self, true_and, and_true, false_and, and_false, if_true, if_false] <;> (repeat (first | rw [if_neg (by omega)] | rw [if_pos (by omega)])))
  have l11 : ∀ i, i ≠ S 0 11 → zr_pp S k w c 11 i = S 11 i := fun i hi => by unfold zr_pp; exact (by simp only [zq_up, and_self, true_and, and_true, false_and, and_false, if_true, if_false] <;> (repeat (first | rw [if_neg (by omega)] | rw [if_pos (by omega)])))
  have l12 : ∀ i, i ≠ S 0 11 → zr_pp S k w c 12 i = S 12 i := fun i hi => by unfold zr_pp; exact (by simp only [zq_up, and_self, true_and, and_true, false_and, and_false, if_true, if_false] <;> (repeat (first | rw [if_neg (by omega)] | rw [if_pos (by omega)])))
  have eo : ∀ a j, 1 ≤ a → a < 10 → zr_pp S k w c a j = S a j := fun a j x y => by unfold zr_pp; exact (by simp only [zq_up, and_self, true_and, and_true, false_and, and_false, if_true, if_false] <;> (repeat (first | rw [if_neg (by omega)] | rw [if_pos (by omega)])))
  unfold jQ
  rw [e0, en, em, zr_bl_congr (fun j => eo 1 j (by omega) (by omega))]
  have el : (zr_pl S 2 ++ [w]).length = (zr_pl S 2).length + 1 := by simp
  have el1 : (zr_pl S 1 ++ [w]).length = (zr_pl S 1).length + 1 := by simp
  refine ⟨⟨?_, ?_, ?_⟩, fun i hi => ?_, fun q => ?_, fun i hi hq => ?_, fun p hp hq => ?_, fun i hi hq => ?_, fun i hi hq => ?_, fun z => absurd z hs, ?_⟩
  · have := e 0 (by omega)
    rw [zr_pl_pp, ← q1]
    exact this
  · have := e 1 (by omega)
    rw [zr_pl_pp, ← q2]
    exact this
  · have := e 2 (by omega)
    rw [zr_pl_pp, ← q3]
    exact this
  · by_cases z : i = S 0 11
    · rw [z, e10]; exact hk
    · rw [l10 i z]; exact q4 i (by omega)
  · rw [zr_pl_pp]
    by_cases z : q = k
    · rw [if_pos z, z]
      rw [List.nodup_append]
      refine ⟨q5 k, by simp, fun a ha b hb => ?_⟩
      rw [List.mem_singleton.mp hb]
      exact fun v => hw (v ▸ ha)
    · rw [if_neg z]
      exact q5 q
  · by_cases z : i = S 0 11
    · rw [z] at hq ⊢
      rw [e10] at hq
      obtain ⟨y1, y2, y3, y4, y5⟩ := h0 hq
      rw [e11, e12, eo 6 _ (by omega) (by omega), eo 8 _ (by omega) (by omega)]
      exact ⟨y1, y2, y3, y4, y5⟩
    · rw [l10 i z] at hq
      rw [l11 i z, l12 i z, eo 6 _ (by omega) (by omega), eo 8 _ (by omega) (by omega)]
      obtain ⟨y1, y2, y3, y4, y5⟩ := q6 i (by omega) hq
      refine ⟨y1, y2, y3, y4, ?_⟩
      rcases h4 _ (h10 i) with ⟨v1, v2⟩ | v
      · exact absurd (zr_pl_mem.mpr ⟨i, by omega, by omega, v2⟩) hw
      · rw [v]; exact y5
  · rw [zr_pl_pp] at hq
    rcases h4 p hp with ⟨v1, v2⟩ | v
    · rw [if_pos v1.symm] at hq
      exact absurd (List.mem_append_right _ (by rw [v2]; exact List.mem_singleton_self _)) hq
    · rw [v]
      refine q7 p hp fun y => hq ?_
      by_cases z : 0 = k
      · rw [if_pos z]; exact List.mem_append_left _ y
      · rw [if_neg z]; exact y
  · rw [eo 1 _ (by omega) (by omega)]
    by_cases z : i = S 0 11
    · rw [z] at hq ⊢
      rw [e10] at hq
      rw [e11]
      exact h1 hq
    · rw [l10 i z] at hq
      rw [l11 i z]
      exact q8 i (by omega) hq
  · rw [eo 6 _ (by omega) (by omega)]
    by_cases z : i = S 0 11
    · rw [z] at hq ⊢
      rw [e10] at hq
      rw [e11]
      exact (h2 hq).1
    · rw [l10 i z] at hq
      rw [l11 i z]
      exact q9 i (by omega) hq
  · rw [zr_pl_pp, zr_pl_pp]
    have c3 : k = 0 ∨ k = 1 ∨ k = 2 := by omega
    rcases c3 with rfl | rfl | rfl
    · rw [if_neg (by omega), if_neg (by omega)]; exact q11
    · rw [if_neg (by omega), if_pos rfl, el1]; omega
    · rw [if_pos rfl, if_neg (by omega), el]; exact (h2 rfl).2
theorem zr_ok.pp {S : (Nat → Nat → Nat)} {k w c : Nat} (h : zr_ok S) (hn : S 0 11 < 32) (hk : k ≤ 2) (hw : w < 10) (h1 : k = 1 → w < 8) (hc : c < 65536) : zr_ok (zr_pp S k w c) := by
  obtain ⟨a1, a2, a3, a4, a5⟩ := h
  refine ⟨?_, ?_, fun p => ?_, fun i => ?_, fun i hi => ?_⟩
  · unfold zr_pp
    exact (((a1.up (by omega)).up (by omega)).up hc).up (by omega)
  · rw [show zr_pp S k w c 0 11 = S 0 11 + 1 from by unfold zr_pp; exact (by simp only [zq_up, and_self, true_and, and_true, false_and, and_false, if_true, if_false] <;> (repeat (first | rw [if_neg (by omega)] | rw [if_pos (by omega)])))]
    omega
  · rw [show zr_pp S k w c 9 p = S 9 p from by unfold zr_pp; exact (by simp only [zq_up, and_self, true_and, and_true, false_and, and_false, if_true, if_false] <;> (repeat (first | rw [if_neg (by omega)] | rw [if_pos (by omega)])))]
    exact a3 p
  · by_cases z : i = S 0 11
    · rw [z, show zr_pp S k w c 11 (S 0 11) = w from by unfold zr_pp; exact (by simp only [zq_up, and_self, true_and, and_true, false_and, and_false, if_true, if_false] <;> (repeat (first | rw [if_neg (by omega)] | rw [if_pos (by omega)])))]; exact hw
    · rw [show zr_pp S k w c 11 i = S 11 i from by unfold zr_pp; exact (by simp only [zq_up, and_self, true_and, and_true, false_and, and_false, if_true, if_false] <;> (repeat (first | rw [if_neg (by omega)] | rw [if_pos (by omega)])))]; exact a4 i
  · by_cases z : i = S 0 11
    · rw [z, show zr_pp S k w c 10 (S 0 11) = k from by unfold zr_pp; exact (by simp only [zq_up, and_self, true_and, and_true, false_and, and_false, if_true, if_false] <;> (repeat (first | rw [if_neg (by omega)] | rw [if_pos (by omega)])))] at hi
      rw [z, show zr_pp S k w c 11 (S 0 11) = w from by unfold zr_pp; exact (by simp only [zq_up, and_self, true_and, and_true, false_and, and_false, if_true, if_false] <;> (repeat (first | rw [if_neg (by omega)] | rw [if_pos (by omega)])))]; exact h1 hi
    · rw [show zr_pp S k w c 10 i = S 10 i from by unfold zr_pp; exact (by simp only [zq_up, and_self, true_and, and_true, false_and, and_false, if_true, if_false] <;> (repeat (first | rw [if_neg (by omega)] | rw [if_pos (by omega)])))] at hi
      rw [show zr_pp S k w c 11 i = S 11 i from by unfold zr_pp; exact (by simp only [zq_up, and_self, true_and, and_true, false_and, and_false, if_true, if_false] <;> (repeat (first | rw [if_neg (by omega)] | rw [if_pos (by omega)])))]; exact a5 i hi
theorem zr_pp_o {S : (Nat → Nat → Nat)} {k w c a j : Nat} (h : a ≠ 0 ∧ (a < 10 ∨ 13 ≤ a) ∨ a = 0 ∧ j ≠ 11) : zr_pp S k w c a j = S a j := by unfold zr_pp; exact (by simp only [zq_up, and_self, true_and, and_true, false_and, and_false, if_true, if_false] <;> (repeat (first | rw [if_neg (by omega)] | rw [if_pos (by omega)])))
/-- a group that is there: how many proposals there can be -/
theorem J.few {X S : (Nat → Nat → Nat)} (h : J X S) : (zr_pl S 0).length ≤ 10 ∧ (zr_pl S 1).length ≤ 8 ∧ (zr_pl S 2).length ≤ 10 ∧ S 0 11 ≤ 28 ∧ X 16 1 = (zr_pl S 0).length ∧ X 18 1 = (zr_pl S 1).length ∧ X 20 1 = (zr_pl S 2).length ∧ X 16 1 + X 18 1 + X 20 1 = S 0 11 := by
  have pr := h.pr
  obtain ⟨⟨b1, b2, b3, b4, b5, b6⟩, hP, hA, hQ, hL⟩ := h
  obtain ⟨⟨q1, q2, q3⟩, q4, q5, q6, q7, q8, q9, q10, q11⟩ := hQ
  have s := zr_pl_sum q4
  have l1 := pr.2.1
  have l2 := pr.2.2.1
  have l3 := pr.2.2.2.1
  rw [← q1, ← q2, ← q3, zc_ls_len, zc_ls_len, zc_ls_len] at s ⊢
  exact ⟨l1, l2, l3, by omega, rfl, rfl, rfl, s⟩
theorem zc_in_pl {X S : (Nat → Nat → Nat)} (h : jQ X S) {q w : Nat} (hq : q ≤ 2) : zc_in X (16 + 2 * q) w ↔ w ∈ zr_pl S q := by
  rw [← zc_ls_mem]
  have : q = 0 ∨ q = 1 ∨ q = 2 := by omega
  rcases this with rfl | rfl | rfl
  · rw [← h.1.1]
  · rw [← h.1.2.1]
  · rw [← h.1.2.2]
/-- the step that adds a proposal -/
theorem J.pp {X S Y : (Nat → Nat → Nat)} {k w c : Nat} (h : J X S) (hk : k ≤ 2) (hw : w < 10) (h1 : k = 1 → w < 8) (hb : zr_bd Y) (hQ : jQ Y (zr_pp S k w c)) (hc : c < 65536) (ho : ∀ a j, (a < 2 ∨ 12 ≤ a ∧ a < 16 ∨ 22 ≤ a) → Y a j = X a j) (hp : ∀ p j, p < 10 → j < 4 → Y (2 + p) j = X (2 + p) j) : J Y (zr_pp S k w c) := by
  have fe := h.few
  obtain ⟨⟨b1, b2, b3, b4, b5, b6⟩, hP, hA, -, hL⟩ := h
  refine ⟨⟨b1.pp (by omega) hk hw h1 hc, b2.same hb (fun a j q => ho a j (by omega)), ?_, ?_, ?_, ?_⟩, hP.same hp (fun a j q => zr_pp_o (by omega)) (zr_pp_o (by omega)) (Nat.le_of_eq (zr_pp_o (by omega)).symm), hA.same (fun a j q => ho a j (by omega)) (fun a j q => zr_pp_o (by omega)) (zr_pp_o (by omega)) (zr_pp_o (by omega)) (Nat.le_of_eq (zr_pp_o (by omega)).symm), hQ, hL.same (fun a j q => ho a j (by omega)) (fun a j q => zr_pp_o (by omega)) (zr_pp_o (by omega)) (zr_pp_o (by omega)) (Nat.le_of_eq (zr_pp_o (by omega)).symm)⟩
  · rw [ho _ _ (by omega), zr_pp_o (by omega)]; exact b3
  · rw [zr_pp_o (by omega)]; exact b4
  · rw [ho _ _ (by omega), zr_pp_o (by omega)]; exact b5
  · rw [zr_pp_o (by omega)]; exact b6
theorem zc_ul_bl {X S : (Nat → Nat → Nat)} {e : Nat} (h : ∀ n, 1 ≤ n → n < 16 → X (45 + 8 * e + 2) n = S 1 (e * 16 + n)) : ∀ (c l : Nat), l + c = 8 → zc_ul X (45 + 8 * e + 1) c l + zr_bl S e c (8 + l) = c
  | 0, _, _ => rfl
  | c + 1, l, hl => by
    have ih := zc_ul_bl h c (l + 1) (by omega)
    have e1 := h (8 + l) (by omega) (by omega)
    rw [zc_ul, zr_bl, show 45 + 8 * e + 1 + 1 = 45 + 8 * e + 2 from rfl, e1]
    rw [show 8 + (l + 1) = 8 + l + 1 from rfl] at ih
    by_cases z : S 1 (e * 16 + (8 + l)) = 0
    · rw [if_pos z, if_pos z]; omega
    · rw [if_neg z, if_neg z]; omega
theorem J.ul {X S : (Nat → Nat → Nat)} (h : J X S) (h0 : ¬ S 0 0 = 0) : zc_ul X (45 + 8 * (S 0 0 - 1) + 1) 8 0 + zr_bl S (S 0 0 - 1) 8 8 = 8 := zc_ul_bl (fun n h1 h2 => ((h.2.2.1.1 (S 0 0 - 1) (by omega)).1 n h1 h2).1) 8 0 rfl
theorem J.add {X S : (Nat → Nat → Nat)} {p : Nat} (h : J X S) (h0 : J0 S) (hp : p < 10) : (zc_add X (S 0 0) p).1 = (zr_add S p).1 ∧ J (zc_add X (S 0 0) p).2 (zr_add S p).2 ∧ J0 (zr_add S p).2 ∧ (X 20 1 < 10 ∨ zc_in X 20 p) := by
  have fe := h.few
  have hb := h.1.2.1.1
  obtain ⟨p1, p2, p3, p4, p5, p6, p7, p8, p9⟩ := h.2.1 p hp
  have hin := zc_in_pl h.2.2.2.1 (q := 2) (w := p) (by omega)
  have hin : zc_in X 20 p ↔ p ∈ zr_pl S 2 := hin
  have full : X 20 1 < 10 ∨ zc_in X 20 p := by
    by_cases z : p ∈ zr_pl S 2
    · exact Or.inr (hin.mpr z)
    · left
      have nd := h.2.2.2.1.2.2.1 2
      have b : ∀ x ∈ p :: zr_pl S 2, x < 10 := fun x hx => by
        rcases List.mem_cons.mp hx with rfl | hx
        · exact hp
        · obtain ⟨i, -, -, e⟩ := zr_pl_mem.mp hx
          rw [← e]; exact h.1.1.2.2.2.1 i
      have := nodup_len 10 _ (List.nodup_cons.mpr ⟨z, nd⟩) b
      rw [List.length_cons] at this
      omega
  suffices hs : (zc_add X (S 0 0) p).1 = (zr_add S p).1 ∧ J (zc_add X (S 0 0) p).2 (zr_add S p).2 ∧ J0 (zr_add S p).2 from ⟨hs.1, hs.2.1, hs.2.2, full⟩
  unfold zc_add zr_add
  have cond : (S 0 0 = 0 ∨ ¬ X (2 + p) 0 = 1 ∨ zc_in X 20 p) ↔ (S 0 0 = 0 ∨ ¬ S 6 p = 1 ∨ ¬ zr_fi S 2 p = none) := by
    rw [p1, hin, zr_fi_none, Classical.not_not]
  by_cases c1 : S 0 0 = 0 ∨ ¬ S 6 p = 1 ∨ ¬ zr_fi S 2 p = none
  · rw [if_pos (cond.mpr c1), if_pos c1]
    exact ⟨rfl, h, h0⟩
  · rw [if_neg (fun z => c1 (cond.mp z)), if_neg c1]
    have z0 : ¬ S 0 0 = 0 := fun z => c1 (Or.inl z)
    have z1 : S 6 p = 1 := Classical.not_not.mp fun z => c1 (Or.inr (Or.inl z))
    have z2 : p ∉ zr_pl S 2 := zr_fi_none.mp (Classical.not_not.mp fun z => c1 (Or.inr (Or.inr z)))
    have ul := h.ul z0
    have m1 : zr_mn S 1 (S 0 11) 0 = (zr_pl S 1).length := zr_mn_pl
    have m2 : zr_mn S 2 (S 0 11) 0 = (zr_pl S 2).length := zr_mn_pl
    rw [m1, m2]
    by_cases c2 : zr_bl S (S 0 0 - 1) 8 8 + (zr_pl S 1).length ≤ (zr_pl S 2).length
    · rw [if_pos c2, if_pos (by omega)]
      exact ⟨rfl, h, h0⟩
    · rw [if_neg c2, if_neg (by omega)]
      have l20 : X 20 1 < 10 := by
        rcases full with z | z
        · exact z
        · exact absurd (hin.mp z) z2
      dsimp only
      refine ⟨?_, h.pp (by omega) hp (by omega) (zc_ap_bd hb (by omega) (by omega)) (h.2.2.2.1.pp (by omega) z2 z0 (fun q hq => ?_) (by omega) (fun q hq => Or.inr (zc_ap_o (by omega) (by omega))) (by omega) (fun _ => ⟨z1, by omega⟩) h.1.1.2.2.2.1) (Nat.lt_of_le_of_lt p7 (by have := h.1.2.2.2.2.2; omega)) (fun a j q => zc_ap_o (by omega) (by omega)) (fun q j hq hj => zc_ap_o (by omega) (by omega)), h0.same (zr_pp_o (a := 0) (j := 0) (by omega)) (fun z => absurd z z0)⟩
      · show nI _ = nI _
        congr 1
        omega
      · have : q = 0 ∨ q = 1 ∨ q = 2 := by omega
        rcases this with rfl | rfl | rfl
        · rw [if_neg (by omega)]; exact zc_ls_apo (by omega) (by omega) (by omega)
        · rw [if_neg (by omega)]; exact zc_ls_apo (by omega) (by omega) (by omega)
        · rw [if_pos rfl]; exact zc_ls_ap l20
theorem J.remove {X S : (Nat → Nat → Nat)} {l : Nat} (h : J X S) (h0 : J0 S) (hl : l < 8) : (zc_remove X (S 0 0) l).1 = (zr_remove S l).1 ∧ J (zc_remove X (S 0 0) l).2 (zr_remove S l).2 ∧ J0 (zr_remove S l).2 ∧ (X 18 1 < 8 ∨ zc_in X 18 l) := by
  have fe := h.few
  have hb := h.1.2.1.1
  have hin := zc_in_pl h.2.2.2.1 (q := 1) (w := l) (by omega)
  have hin : zc_in X 18 l ↔ l ∈ zr_pl S 1 := hin
  have full : X 18 1 < 8 ∨ zc_in X 18 l := by
    by_cases z : l ∈ zr_pl S 1
    · exact Or.inr (hin.mpr z)
    · left
      have nd := h.2.2.2.1.2.2.1 1
      have b : ∀ x ∈ l :: zr_pl S 1, x < 8 := fun x hx => by
        rcases List.mem_cons.mp hx with rfl | hx
        · exact hl
        · obtain ⟨i, hi, k, e⟩ := zr_pl_mem.mp hx
          rw [← e]; exact (h.2.2.2.1.2.2.2.2.2.1 i hi k).1
      have := nodup_len 8 _ (List.nodup_cons.mpr ⟨z, nd⟩) b
      rw [List.length_cons] at this
      omega
  suffices hs : (zc_remove X (S 0 0) l).1 = (zr_remove S l).1 ∧ J (zc_remove X (S 0 0) l).2 (zr_remove S l).2 ∧ J0 (zr_remove S l).2 from ⟨hs.1, hs.2.1, hs.2.2, full⟩
  unfold zc_remove zr_remove
  have cond : (S 0 0 = 0 ∨ X (45 + 8 * (S 0 0 - 1) + 2) (8 + l) = 0 ∨ zc_in X 18 l) ↔ (S 0 0 = 0 ∨ S 1 ((S 0 0 - 1) * 16 + 8 + l) = 0 ∨ ¬ zr_fi S 1 l = none) := by
    rw [hin, zr_fi_none, Classical.not_not]
    by_cases z : S 0 0 = 0
    · simp [z]
    · rw [((h.2.2.1.1 (S 0 0 - 1) (by omega)).1 (8 + l) (by omega) (by omega)).1, Nat.add_assoc]
  by_cases c1 : S 0 0 = 0 ∨ S 1 ((S 0 0 - 1) * 16 + 8 + l) = 0 ∨ ¬ zr_fi S 1 l = none
  · rw [if_pos (cond.mpr c1), if_pos c1]
    exact ⟨rfl, h, h0⟩
  · rw [if_neg (fun z => c1 (cond.mp z)), if_neg c1]
    have z0 : ¬ S 0 0 = 0 := fun z => c1 (Or.inl z)
    have z1 : ¬ S 1 ((S 0 0 - 1) * 16 + 8 + l) = 0 := fun z => c1 (Or.inr (Or.inl z))
    have z2 : l ∉ zr_pl S 1 := zr_fi_none.mp (Classical.not_not.mp fun z => c1 (Or.inr (Or.inr z)))
    have l18 : X 18 1 < 8 := by
      rcases full with z | z
      · exact z
      · exact absurd (hin.mp z) z2
    dsimp only
    refine ⟨?_, h.pp (by omega) (by omega) (fun _ => hl) (zc_ap_bd hb (by omega) (by omega)) (h.2.2.2.1.pp (by omega) z2 z0 (fun q hq => ?_) (by omega) (fun q hq => Or.inr (zc_ap_o (by omega) (by omega))) (fun _ => ⟨hl, by rw [← Nat.add_assoc]; exact z1⟩) (by omega) h.1.1.2.2.2.1) (by omega) (fun a j q => zc_ap_o (by omega) (by omega)) (fun q j hq hj => zc_ap_o (by omega) (by omega)), h0.same (zr_pp_o (a := 0) (j := 0) (by omega)) (fun z => absurd z z0)⟩
    · show nI _ = nI _
      congr 1
      omega
    · have : q = 0 ∨ q = 1 ∨ q = 2 := by omega
      rcases this with rfl | rfl | rfl
      · rw [if_neg (by omega)]; exact zc_ls_apo (by omega) (by omega) (by omega)
      · rw [if_pos rfl]; exact zc_ls_ap l18
      · rw [if_neg (by omega)]; exact zc_ls_apo (by omega) (by omega) (by omega)
