/-! the class's one rising way reaches them too -/
def jlx (X : (Nat → Nat → Nat)) (hk ht : Nat → Prop) : Prop := (∀ k, ¬ X 14 k = 0 → hk k) ∧ ∀ e, ¬ X 15 e = 0 → ht e
def jec (X : (Nat → Nat → Nat)) (e pf : Nat) (hk ht : Nat → Prop) : Prop := (∀ i, i < X (45 + 8 * e + 6) 1 → hk (X (45 + 8 * e + 5) i) → (X (45 + 8 * e + 7) i = 0 → ht e) ∧ (¬ X (45 + 8 * e + 7) i = 0 → hk (X (45 + 8 * e + 7) i))) ∧ (hk pf → hk (pf + 1)) ∧ (hk (pf + 1) → hk (pf + 2)) ∧ (ht (e - 1) → hk (pf + 2) → ht e)
def jor (X : (Nat → Nat → Nat)) (e pf : Nat) : Prop := (∀ i, i < X (45 + 8 * e + 6) 1 → X (45 + 8 * e + 5) i < pf ∧ (X (45 + 8 * e + 7) i = 0 ∨ pf ≤ X (45 + 8 * e + 7) i ∧ X (45 + 8 * e + 7) i ≤ pf + 2)) ∧ X (45 + 8 * e + 2) (X (45 + 8 * e) 1 / 2) = pf ∧ X (45 + 8 * e + 2) (X (45 + 8 * e) 1 / 4) = pf + 1 ∧ X (45 + 8 * e + 2) 1 = pf + 2
theorem jec.same {X Y : (Nat → Nat → Nat)} {e pf : Nat} {hk ht : Nat → Prop} (h : jec X e pf hk ht) (q : ∀ a j, 45 ≤ a → Y a j = X a j) : jec Y e pf hk ht := by
  unfold jec
  rw [q (45 + 8 * e + 6) 1 (by omega)]
  refine ⟨fun i hi => ?_, h.2⟩
  rw [q (45 + 8 * e + 5) i (by omega), q (45 + 8 * e + 7) i (by omega)]
  exact h.1 i hi
theorem jor.same {X Y : (Nat → Nat → Nat)} {e pf : Nat} (h : jor X e pf) (q : ∀ a j, 45 ≤ a → Y a j = X a j) : jor Y e pf := by
  unfold jor
  rw [q (45 + 8 * e + 6) 1 (by omega), q (45 + 8 * e) 1 (by omega), q (45 + 8 * e + 2) _ (by omega), q (45 + 8 * e + 2) _ (by omega), q (45 + 8 * e + 2) _ (by omega)]
  refine ⟨fun i hi => ?_, h.2⟩
  rw [q (45 + 8 * e + 5) i (by omega), q (45 + 8 * e + 7) i (by omega)]
  exact h.1 i hi
theorem hk14 {X : (Nat → Nat → Nat)} {w k : Nat} : (¬ zc_hk X w 14 k = 0) ↔ (¬ X 14 k = 0 ∨ k = w) := by
  unfold zc_hk
  split
  · rw [zq_up_o (by decide)]
    unfold zq_up
    by_cases h : k = w
    · simp [h]
    · simp [h]
  · rename_i c
    constructor
    · exact Or.inl
    · rintro (h | h)
      · exact h
      · rw [h]; exact c
theorem hk15 {X : (Nat → Nat → Nat)} {w k : Nat} : zc_hk X w 15 k = X 15 k := zc_hk_o (by decide) (by decide)
theorem hs15 {X : (Nat → Nat → Nat)} {w k : Nat} : (¬ zc_hs X w 15 k = 0) ↔ (¬ X 15 k = 0 ∨ k = w) := by
  unfold zc_hs
  split
  · rw [zq_up_o (by decide)]
    unfold zq_up
    by_cases h : k = w
    · simp [h]
    · simp [h]
  · rename_i c
    constructor
    · exact Or.inl
    · rintro (h | h)
      · exact h
      · rw [h]; exact c
theorem hs14 {X : (Nat → Nat → Nat)} {w k : Nat} : zc_hs X w 14 k = X 14 k := zc_hs_o (by decide) (by decide)
/-- Y is X with keys of lo to lo + 2 and the secret of e more -/
def jad (X Y : (Nat → Nat → Nat)) (lo e : Nat) : Prop := jlx X (fun k => ¬ Y 14 k = 0) (fun f => ¬ Y 15 f = 0) ∧ (∀ k, ¬ Y 14 k = 0 → ¬ X 14 k = 0 ∨ (lo ≤ k ∧ k ≤ lo + 2)) ∧ (∀ f, ¬ Y 15 f = 0 → ¬ X 15 f = 0 ∨ f = e) ∧ (∀ a j, 16 ≤ a ∨ a < 13 → Y a j = X a j) ∧ ∀ hk ht, jec X e lo hk ht → jlx X hk ht → jlx Y hk ht
theorem jad.rf {X : (Nat → Nat → Nat)} {lo e : Nat} : jad X X lo e := ⟨⟨fun _ h => h, fun _ h => h⟩, fun _ h => Or.inl h, fun _ h => Or.inl h, fun _ _ _ => rfl, fun _ _ _ h => h⟩
theorem jad.tr {X Y Z : (Nat → Nat → Nat)} {lo e : Nat} (h : jad X Y lo e) (i : jad Y Z lo e) : jad X Z lo e := by
  obtain ⟨h1, h2, h3, h4, h5⟩ := h
  obtain ⟨i1, i2, i3, i4, i5⟩ := i
  refine ⟨⟨fun k q => i1.1 k (h1.1 k q), fun k q => i1.2 k (h1.2 k q)⟩, fun k q => ?_, fun f q => ?_, fun a j q => (i4 a j q).trans (h4 a j q), fun hk ht q r => i5 hk ht (q.same fun a j ha => h4 a j (by omega)) (h5 hk ht q r)⟩
  · rcases i2 k q with r | r
    · exact h2 k r
    · exact Or.inr r
  · rcases i3 f q with r | r
    · exact h3 f r
    · exact Or.inr r
theorem jad.hk {X : (Nat → Nat → Nat)} {lo e w : Nat} (h1 : lo ≤ w) (h2 : w ≤ lo + 2) (hr : ∀ hk ht, jec X e lo hk ht → jlx X hk ht → hk w) : jad X (zc_hk X w) lo e := by
  refine ⟨⟨fun k q => hk14.mpr (Or.inl q), fun k q => by show ¬ zc_hk X w 15 k = 0; rw [hk15]; exact q⟩, fun k q => ?_, fun f q => Or.inl (by rwa [hk15] at q), fun a j q => zc_hk_o (by omega) (by omega), fun hk ht q r => ⟨fun k z => ?_, fun f z => r.2 f (by rwa [hk15] at z)⟩⟩
  · rcases hk14.mp q with r | r
    · exact Or.inl r
    · exact Or.inr (by omega)
  · rcases hk14.mp z with z | z
    · exact r.1 k z
    · rw [z]; exact hr hk ht q r
theorem jad.hs {X : (Nat → Nat → Nat)} {lo e : Nat} (hr : ∀ hk ht, jec X e lo hk ht → jlx X hk ht → ht e) : jad X (zc_hs X e) lo e := by
  refine ⟨⟨fun k q => by show ¬ zc_hs X e 14 k = 0; rw [hs14]; exact q, fun k q => hs15.mpr (Or.inl q)⟩, fun k q => Or.inl (by rwa [hs14] at q), fun f q => hs15.mp q, fun a j q => zc_hs_o (by omega) (by omega), fun hk ht q r => ⟨fun k z => r.1 k (by rwa [hs14] at z), fun f z => ?_⟩⟩
  rcases hs15.mp z with z | z
  · exact r.2 f z
  · rw [z]; exact hr hk ht q r
theorem jad.o1 {X : (Nat → Nat → Nat)} {e pf i : Nat} (ho : jor X e pf) (hi : i < X (45 + 8 * e + 6) 1) : jad X (zc_o1 X (45 + 8 * e) e i) pf e ∧ (¬ zc_o1 X (45 + 8 * e) e i 14 (X (45 + 8 * e + 5) i) = 0 → (X (45 + 8 * e + 7) i = 0 → ¬ zc_o1 X (45 + 8 * e) e i 15 e = 0) ∧ (¬ X (45 + 8 * e + 7) i = 0 → ¬ zc_o1 X (45 + 8 * e) e i 14 (X (45 + 8 * e + 7) i) = 0)) := by
  obtain ⟨a, b⟩ := ho.1 i hi
  unfold zc_o1
  by_cases c1 : X 14 (X (45 + 8 * e + 5) i) = 0
  · rw [if_pos c1]
    exact ⟨jad.rf, fun q => absurd c1 q⟩
  · rw [if_neg c1]
    by_cases c2 : X (45 + 8 * e + 7) i = 0
    · rw [if_pos c2]
      exact ⟨jad.hs fun hk ht q r => (q.1 i hi (r.1 _ c1)).1 c2, fun _ => ⟨fun _ => hs15.mpr (Or.inr rfl), fun q => absurd c2 q⟩⟩
    · rw [if_neg c2]
      have b := b.resolve_left c2
      exact ⟨jad.hk b.1 b.2 fun hk ht q r => (q.1 i hi (r.1 _ c1)).2 c2, fun _ => ⟨fun q => absurd q c2, fun _ => hk14.mpr (Or.inr rfl)⟩⟩
theorem jad.om {e pf : Nat} : ∀ (c i : Nat) (X : (Nat → Nat → Nat)), jor X e pf → i + c = X (45 + 8 * e + 6) 1 → jad X (zc_om (45 + 8 * e) e c i X) pf e ∧ ∀ j, i ≤ j → j < X (45 + 8 * e + 6) 1 → ¬ zc_om (45 + 8 * e) e c i X 14 (X (45 + 8 * e + 5) j) = 0 → (X (45 + 8 * e + 7) j = 0 → ¬ zc_om (45 + 8 * e) e c i X 15 e = 0) ∧ (¬ X (45 + 8 * e + 7) j = 0 → ¬ zc_om (45 + 8 * e) e c i X 14 (X (45 + 8 * e + 7) j) = 0)
  | 0, i, X, ho, hi => ⟨jad.rf, fun j h1 h2 => by omega⟩
  | c + 1, i, X, ho, hi => by
    obtain ⟨q1, q2⟩ := jad.o1 ho (i := i) (by omega)
    have o := q1.2.2.2.1
    rw [zc_om]
    generalize zc_o1 X (45 + 8 * e) e i = Y at q1 q2 o
    obtain ⟨i1, i2⟩ := jad.om c (i + 1) Y (ho.same fun a j ha => o a j (by omega)) (by rw [o _ _ (by omega)]; omega)
    rw [o (45 + 8 * e + 6) 1 (by omega)] at i2
    refine ⟨q1.tr i1, fun j h1 h2 h3 => ?_⟩
    by_cases w : j = i
    · subst w
      have lt := (ho.1 j h2).1
      have h3' : ¬ Y 14 (X (45 + 8 * e + 5) j) = 0 := by
        rcases i1.2.1 _ h3 with r | r
        · exact r
        · omega
      obtain ⟨r1, r2⟩ := q2 h3'
      exact ⟨fun z => i1.1.2 _ (r1 z), fun z => i1.1.1 _ (r2 z)⟩
    · have := i2 j (by omega) h2
      rw [o (45 + 8 * e + 5) j (by omega), o (45 + 8 * e + 7) j (by omega)] at this
      exact this h3
theorem jad.kk {X : (Nat → Nat → Nat)} {lo e a b : Nat} (h1 : lo ≤ b) (h2 : b ≤ lo + 2) (hr : ∀ hk ht, jec X e lo hk ht → hk a → hk b) : jad X (zc_kk X a b) lo e ∧ (¬ X 14 a = 0 → ¬ zc_kk X a b 14 b = 0) := by
  unfold zc_kk
  by_cases c : X 14 a = 0
  · rw [if_pos c]
    exact ⟨jad.rf, fun q => absurd c q⟩
  · rw [if_neg c]
    exact ⟨jad.hk h1 h2 fun hk ht q r => hr hk ht q (r.1 _ c), fun _ => hk14.mpr (Or.inr rfl)⟩
theorem zc_kk14 {X : (Nat → Nat → Nat)} {a b k : Nat} (h : ¬ zc_kk X a b 14 k = 0) : ¬ X 14 k = 0 ∨ k = b := by
  unfold zc_kk at h
  split at h
  · exact Or.inl h
  · exact hk14.mp h
theorem jad.fo {X : (Nat → Nat → Nat)} {e pf : Nat} (h1 : 1 ≤ e) (ho : jor X e pf) : jad X (zc_fo X (45 + 8 * e) e) pf e ∧ jec X e pf (fun k => ¬ zc_fo X (45 + 8 * e) e 14 k = 0) (fun f => ¬ zc_fo X (45 + 8 * e) e 15 f = 0) := by
  obtain ⟨a1, a2⟩ := jad.om (X (45 + 8 * e + 6) 1) 0 X ho (Nat.zero_add _)
  unfold zc_fo
  generalize zc_om (45 + 8 * e) e (X (45 + 8 * e + 6) 1) 0 X = Y at a1 a2
  have o := a1.2.2.2.1
  have hoY := ho.same fun a j ha => o a j (show 16 ≤ a ∨ a < 13 by omega)
  obtain ⟨-, y1, y2, y3⟩ := hoY
  unfold zc_cl
  rw [y1, y2, y3]
  obtain ⟨b1, b2⟩ := jad.kk (X := Y) (lo := pf) (e := e) (a := pf) (b := pf + 1) (by omega) (by omega) (fun hk ht q => q.2.1)
  obtain ⟨c1, c2⟩ := jad.kk (X := zc_kk Y pf (pf + 1)) (lo := pf) (e := e) (a := pf + 1) (b := pf + 2) (by omega) (by omega) (fun hk ht q => q.2.2.1)
  have lo2 : ∀ k, ¬ zc_kk (zc_kk Y pf (pf + 1)) (pf + 1) (pf + 2) 14 k = 0 → ¬ zc_kk Y pf (pf + 1) 14 k = 0 ∨ k = pf + 2 := fun k => zc_kk14
  have lo1 : ∀ k, ¬ zc_kk Y pf (pf + 1) 14 k = 0 → ¬ Y 14 k = 0 ∨ k = pf + 1 := fun k => zc_kk14
  generalize zc_kk Y pf (pf + 1) = Y1 at b1 b2 c1 c2 lo1 lo2
  generalize zc_kk Y1 (pf + 1) (pf + 2) = Y2 at c1 c2 lo2
  have ab := (a1.tr b1).tr c1
  have hoZ := ho.same fun a j ha => ab.2.2.2.1 a j (show 16 ≤ a ∨ a < 13 by omega)
  obtain ⟨-, z1, z2, z3⟩ := hoZ
  have fin : ∀ Z, jad Y2 Z pf e → (∀ k, ¬ Z 14 k = 0 → ¬ Y2 14 k = 0) → (¬ Z 15 (e - 1) = 0 → ¬ Z 14 (pf + 2) = 0 → ¬ Z 15 e = 0) → jad X Z pf e ∧ jec X e pf (fun k => ¬ Z 14 k = 0) (fun f => ¬ Z 15 f = 0) := by
    intro Z d1 d2 d3
    refine ⟨ab.tr d1, fun i hi v => ?_, fun v => ?_, fun v => ?_, d3⟩
    · have lt := (ho.1 i hi).1
      have vY : ¬ Y 14 (X (45 + 8 * e + 5) i) = 0 := by
        rcases lo2 _ (d2 _ v) with r | r
        · rcases lo1 _ r with r | r
          · exact r
          · omega
        · omega
      obtain ⟨r1, r2⟩ := a2 i (Nat.zero_le _) hi vY
      exact ⟨fun z => d1.1.2 _ (c1.1.2 _ (b1.1.2 _ (r1 z))), fun z => d1.1.1 _ (c1.1.1 _ (b1.1.1 _ (r2 z)))⟩
    · have vY : ¬ Y 14 pf = 0 := by
        rcases lo2 _ (d2 _ v) with r | r
        · rcases lo1 _ r with r | r
          · exact r
          · omega
        · omega
      exact d1.1.1 _ (c1.1.1 _ (b2 vY))
    · have vY : ¬ Y1 14 (pf + 1) = 0 := by
        rcases lo2 _ (d2 _ v) with r | r
        · exact r
        · omega
      exact d1.1.1 _ (c2 vY)
  unfold zc_f2
  rw [z3]
  by_cases c : ¬ Y2 15 (e - 1) = 0 ∧ ¬ Y2 14 (pf + 2) = 0
  · rw [if_pos c]
    exact fin _ (jad.hs fun hk ht q r => q.2.2.2 (r.2 _ c.1) (r.1 _ c.2)) (fun k z => by rwa [hs14] at z) (fun _ _ => hs15.mpr (Or.inr rfl))
  · rw [if_neg c]
    exact fin _ jad.rf (fun k z => z) (fun v u => absurd ⟨v, u⟩ c)
theorem jad.gl (pf : Nat → Nat) : ∀ (c e : Nat) (X : (Nat → Nat → Nat)), 1 ≤ e → (∀ f, e ≤ f → f < e + c → jor X f (pf f)) → (∀ f h, e ≤ f → f < h → h < e + c → pf f + 2 < pf h) →
    jlx X (fun k => ¬ zc_gl c e X 14 k = 0) (fun f => ¬ zc_gl c e X 15 f = 0) ∧ (∀ k, ¬ zc_gl c e X 14 k = 0 → ¬ X 14 k = 0 ∨ ∃ f, e ≤ f ∧ f < e + c ∧ pf f ≤ k) ∧ (∀ f, ¬ zc_gl c e X 15 f = 0 → ¬ X 15 f = 0 ∨ e ≤ f) ∧ (∀ hk ht, (∀ f, e ≤ f → f < e + c → jec X f (pf f) hk ht) → jlx X hk ht → jlx (zc_gl c e X) hk ht) ∧ ∀ f, e ≤ f → f < e + c → jec X f (pf f) (fun k => ¬ zc_gl c e X 14 k = 0) (fun f => ¬ zc_gl c e X 15 f = 0)
  | 0, e, X, h1, ho, hm => ⟨⟨fun _ h => h, fun _ h => h⟩, fun _ h => Or.inl h, fun _ h => Or.inl h, fun _ _ _ h => h, fun f a b => by omega⟩
  | c + 1, e, X, h1, ho, hm => by
    obtain ⟨a1, a2⟩ := jad.fo h1 (ho e (Nat.le_refl _) (by omega))
    rw [zc_gl]
    generalize zc_fo X (45 + 8 * e) e = Y at a1 a2
    have o : ∀ a j, 45 ≤ a → Y a j = X a j := fun a j ha => a1.2.2.2.1 a j (by omega)
    obtain ⟨b1, b2, b3, b4, b5⟩ := jad.gl pf c (e + 1) Y (by omega) (fun f x y => (ho f (by omega) (by omega)).same o) (fun f h x y z => hm f h (by omega) y (by omega))
    generalize zc_gl c (e + 1) Y = Z at b1 b2 b3 b4 b5
    have up : ∀ k, ¬ Z 14 k = 0 → k ≤ pf e + 2 → ¬ Y 14 k = 0 := fun k v w => by
      rcases b2 k v with r | ⟨f, f1, f2, f3⟩
      · exact r
      · have := hm e f (Nat.le_refl _) (by omega) (by omega)
        omega
    refine ⟨⟨fun k v => b1.1 k (a1.1.1 k v), fun k v => b1.2 k (a1.1.2 k v)⟩, fun k v => ?_, fun f v => ?_, fun hk ht q r => b4 hk ht (fun f x y => (q f (by omega) (by omega)).same o) (a1.2.2.2.2 hk ht (q e (Nat.le_refl _) (by omega)) r), fun f x y => ?_⟩
    · rcases b2 k v with r | ⟨f, f1, f2, f3⟩
      · rcases a1.2.1 k r with r | r
        · exact Or.inl r
        · exact Or.inr ⟨e, Nat.le_refl _, by omega, r.1⟩
      · exact Or.inr ⟨f, by omega, by omega, f3⟩
    · rcases b3 f v with r | r
      · rcases a1.2.2.1 f r with r | r
        · exact Or.inl r
        · exact Or.inr (by omega)
      · exact Or.inr (by omega)
    · by_cases w : f = e
      · subst w
        have ho' := ho f (Nat.le_refl _) (by omega)
        refine ⟨fun i hi v => ?_, fun v => b1.1 _ (a2.2.1 (up _ v (by omega))), fun v => b1.1 _ (a2.2.2.1 (up _ v (by omega))), fun v u => ?_⟩
        · have lt := (ho'.1 i hi).1
          obtain ⟨r1, r2⟩ := a2.1 i hi (up _ v (by omega))
          exact ⟨fun z => b1.2 _ (r1 z), fun z => b1.1 _ (r2 z)⟩
        · refine b1.2 _ (a2.2.2.2 ?_ (up _ u (by omega)))
          rcases b3 _ v with r | r
          · exact r
          · omega
      · exact (b5 f (by omega) (by omega)).same fun a j ha => (o a j ha).symm
