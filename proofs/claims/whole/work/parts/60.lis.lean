/-! WHAT THE LISTENER WORKS OUT: the reference's turns reach the least closed sets -/
def jcl (S : (Nat → Nat → Nat)) (hk ht : Nat → Prop) : Prop := (∀ m, m < S 0 15 → hk (S 14 m) → (S 13 m < 1000 → hk (S 13 m)) ∧ (1000 ≤ S 13 m → ht (S 13 m - 1000))) ∧ ∀ e, 1 ≤ e → e < S 0 0 → (hk (S 5 e) → hk (S 5 e + 1)) ∧ (hk (S 5 e + 1) → hk (S 5 e + 2)) ∧ (ht (e - 1) → hk (S 5 e + 2) → ht e)
def jle (S : (Nat → Nat → Nat)) (hk ht : Nat → Prop) : Prop := (∀ k, ¬ S 15 k = 0 → hk k) ∧ ∀ e, ¬ S 16 e = 0 → ht e
def jcn (S : (Nat → Nat → Nat)) : Nat := zr_ct (fun k => !(S 15 k == 0)) 121 0 + zr_ct (fun k => !(S 16 k == 0)) 21 0
theorem jcn_le (S : (Nat → Nat → Nat)) : jcn S ≤ 142 := by
  have a := zr_ct_le (fun k => !(S 15 k == 0)) 121 0
  have b := zr_ct_le (fun k => !(S 16 k == 0)) 21 0
  unfold jcn
  omega
theorem jcl.same {S T : (Nat → Nat → Nat)} {hk ht : Nat → Prop} (h : jcl S hk ht) (q : ∀ a j, a ≠ 15 → a ≠ 16 → T a j = S a j) : jcl T hk ht := by
  unfold jcl
  rw [q 0 15 (by decide) (by decide), q 0 0 (by decide) (by decide)]
  refine ⟨fun m hm => ?_, fun e h1 h2 => ?_⟩
  · rw [q 14 m (by decide) (by decide), q 13 m (by decide) (by decide)]
    exact h.1 m hm
  · rw [q 5 e (by decide) (by decide)]
    exact h.2 e h1 h2
def jst (S T : (Nat → Nat → Nat)) (mo mo' : Nat) : Prop := (∀ hk ht, jcl S hk ht → jle S hk ht → jle T hk ht) ∧ jle S (fun k => ¬ T 15 k = 0) (fun e => ¬ T 16 e = 0) ∧ (∀ a j, a ≠ 15 → a ≠ 16 → T a j = S a j) ∧ jcn S ≤ jcn T ∧ (¬ mo' = 0 → ¬ mo = 0 ∨ jcn S < jcn T) ∧ (mo' = 0 → mo = 0 ∧ jle T (fun k => ¬ S 15 k = 0) (fun e => ¬ S 16 e = 0))
theorem jst.rf {S : (Nat → Nat → Nat)} {mo : Nat} : jst S S mo mo := ⟨fun _ _ _ h => h, ⟨fun _ h => h, fun _ h => h⟩, fun _ _ _ _ => rfl, Nat.le_refl _, fun h => Or.inl h, fun h => ⟨h, ⟨fun _ h => h, fun _ h => h⟩⟩⟩
theorem jst.tr {S T V : (Nat → Nat → Nat)} {a b c : Nat} (h : jst S T a b) (i : jst T V b c) : jst S V a c := by
  obtain ⟨h1, h2, h3, h4, h5, h6⟩ := h
  obtain ⟨i1, i2, i3, i4, i5, i6⟩ := i
  refine ⟨fun hk ht q r => i1 hk ht (q.same h3) (h1 hk ht q r), ⟨fun k q => i2.1 k (h2.1 k q), fun k q => i2.2 k (h2.2 k q)⟩, fun k j p q => (i3 k j p q).trans (h3 k j p q), by omega, fun q => ?_, fun q => ?_⟩
  · rcases i5 q with r | r
    · rcases h5 r with s | s
      · exact Or.inl s
      · exact Or.inr (by omega)
    · exact Or.inr (by omega)
  · obtain ⟨r1, r2⟩ := i6 q
    obtain ⟨s1, s2⟩ := h6 r1
    exact ⟨s1, ⟨fun k z => s2.1 k (r2.1 k z), fun k z => s2.2 k (r2.2 k z)⟩⟩
theorem jst.k {S : (Nat → Nat → Nat)} {w mo : Nat} (hw : w < 121) (hr : ∀ hk ht, jcl S hk ht → jle S hk ht → hk w) : jst S (zq_up S 15 w 1) mo (if S 15 w = 0 then 1 else mo) := by
  have sm : zr_ct (fun k => !(zq_up S 15 w 1 16 k == 0)) 21 0 = zr_ct (fun k => !(S 16 k == 0)) 21 0 := zr_ct_congr _ _ (fun j _ _ => by rw [zq_up_o (by decide)])
  have hi : ∀ k, ¬ S 15 k = 0 → ¬ zq_up S 15 w 1 15 k = 0 := by
    intro k hk
    unfold zq_up
    split
    · exact Nat.one_ne_zero
    · exact hk
  have lo : ∀ k, ¬ zq_up S 15 w 1 15 k = 0 → k = w ∨ ¬ S 15 k = 0 := by
    intro k hk
    unfold zq_up at hk
    split at hk
    · rename_i q
      exact Or.inl q.2
    · exact Or.inr hk
  refine ⟨fun hk ht q r => ⟨fun k z => ?_, fun e z => r.2 e (by rwa [zq_up_o (by decide)] at z)⟩, ⟨hi, fun e z => by show ¬ zq_up S 15 w 1 16 e = 0; rwa [zq_up_o (by decide)]⟩, fun a j p q => zq_up_o p, ?_, ?_, ?_⟩
  · rcases lo k z with rfl | z
    · exact hr hk ht q r
    · exact r.1 k z
  all_goals
    by_cases c : S 15 w = 0
    · have e : zr_ct (fun k => !(zq_up S 15 w 1 15 k == 0)) 121 0 = zr_ct (fun k => !(S 15 k == 0)) 121 0 + 1 := zr_ct_set (k := w) (by simp [c]) (by simp [zq_up]) (fun j hj => by simp [zq_up, hj]) _ _ (by omega) (by omega)
      first
        | (unfold jcn; omega)
        | (intro _; right; unfold jcn; omega)
        | (rw [if_pos c]; intro q; omega)
    · have e : zr_ct (fun k => !(zq_up S 15 w 1 15 k == 0)) 121 0 = zr_ct (fun k => !(S 15 k == 0)) 121 0 := zr_ct_congr _ _ (fun j _ _ => by
        by_cases h : j = w
        · subst h; simp [zq_up, c]
        · simp [zq_up, h])
      first
        | (unfold jcn; omega)
        | (rw [if_neg c]; intro q; exact Or.inl q)
        | (rw [if_neg c]; intro q; refine ⟨q, ⟨fun k z => ?_, fun k z => by rwa [zq_up_o (by decide)] at z⟩⟩
           rcases lo k z with rfl | z
           · exact c
           · exact z)
theorem jst.t {S : (Nat → Nat → Nat)} {w mo : Nat} (hw : w < 21) (hr : ∀ hk ht, jcl S hk ht → jle S hk ht → ht w) : jst S (zq_up S 16 w 1) mo (if S 16 w = 0 then 1 else mo) := by
  have sm : zr_ct (fun k => !(zq_up S 16 w 1 15 k == 0)) 121 0 = zr_ct (fun k => !(S 15 k == 0)) 121 0 := zr_ct_congr _ _ (fun j _ _ => by rw [zq_up_o (by decide)])
  have hi : ∀ k, ¬ S 16 k = 0 → ¬ zq_up S 16 w 1 16 k = 0 := by
    intro k hk
    unfold zq_up
    split
    · exact Nat.one_ne_zero
    · exact hk
  have lo : ∀ k, ¬ zq_up S 16 w 1 16 k = 0 → k = w ∨ ¬ S 16 k = 0 := by
    intro k hk
    unfold zq_up at hk
    split at hk
    · rename_i q
      exact Or.inl q.2
    · exact Or.inr hk
  refine ⟨fun hk ht q r => ⟨fun k z => r.1 k (by rwa [zq_up_o (by decide)] at z), fun e z => ?_⟩, ⟨fun k z => by show ¬ zq_up S 16 w 1 15 k = 0; rwa [zq_up_o (by decide)], hi⟩, fun a j p q => zq_up_o q, ?_, ?_, ?_⟩
  · rcases lo e z with rfl | z
    · exact hr hk ht q r
    · exact r.2 e z
  all_goals
    by_cases c : S 16 w = 0
    · have e : zr_ct (fun k => !(zq_up S 16 w 1 16 k == 0)) 21 0 = zr_ct (fun k => !(S 16 k == 0)) 21 0 + 1 := zr_ct_set (k := w) (by simp [c]) (by simp [zq_up]) (fun j hj => by simp [zq_up, hj]) _ _ (by omega) (by omega)
      first
        | (unfold jcn; omega)
        | (intro _; right; unfold jcn; omega)
        | (rw [if_pos c]; intro q; omega)
    · have e : zr_ct (fun k => !(zq_up S 16 w 1 16 k == 0)) 21 0 = zr_ct (fun k => !(S 16 k == 0)) 21 0 := zr_ct_congr _ _ (fun j _ _ => by
        by_cases h : j = w
        · subst h; simp [zq_up, c]
        · simp [zq_up, h])
      first
        | (unfold jcn; omega)
        | (rw [if_neg c]; intro q; exact Or.inl q)
        | (rw [if_neg c]; intro q; refine ⟨q, ⟨fun k z => by rwa [zq_up_o (by decide)] at z, fun k z => ?_⟩⟩
           rcases lo k z with rfl | z
           · exact c
           · exact z)
/-- one message -/
theorem jst.l1 {S : (Nat → Nat → Nat)} (hp : zr_lp S) {m mo : Nat} (hm : m < S 0 15) : ∃ T mo', jst S T mo mo' ∧ (∀ c, zr_l1 (c + 1) m mo S = zr_l1 c (m + 1) mo' T) ∧ (mo' = 0 → ¬ S 15 (S 14 m) = 0 → (S 13 m < 1000 → ¬ S 15 (S 13 m) = 0) ∧ (1000 ≤ S 13 m → ¬ S 16 (S 13 m - 1000) = 0)) := by
  obtain ⟨p1, p2, p3⟩ := hp.2.2.1 m hm
  by_cases c1 : S 15 (S 14 m) = 0
  · exact ⟨S, mo, jst.rf, fun c => by rw [zr_l1, if_pos c1], fun _ q => absurd c1 q⟩
  · by_cases c2 : S 13 m < 1000
    · refine ⟨zq_up S 15 (S 13 m) 1, _, jst.k (p2 c2).2 (fun hk ht q r => (q.1 m hm (r.1 _ c1)).1 c2), fun c => by rw [zr_l1, if_neg c1, if_pos c2], fun q _ => ⟨fun _ z => ?_, fun z => by omega⟩⟩
      rw [if_pos z] at q
      omega
    · refine ⟨zq_up S 16 (S 13 m - 1000) 1, _, jst.t (by have := p3 (by omega); omega) (fun hk ht q r => (q.1 m hm (r.1 _ c1)).2 (by omega)), fun c => by rw [zr_l1, if_neg c1, if_neg c2], fun q _ => ⟨fun z => by omega, fun _ z => ?_⟩⟩
      rw [if_pos z] at q
      omega
theorem zr_lp.jst {S T : (Nat → Nat → Nat)} {a b : Nat} (h : zr_lp S) (q : jst S T a b) : zr_lp T := h.same fun k j h1 h2 => q.2.2.1 k j h1 h2
theorem jst.l1s : ∀ (c m mo : Nat) (S : (Nat → Nat → Nat)), zr_lp S → m + c = S 0 15 → jst S (zr_l1 c m mo S).2 mo (zr_l1 c m mo S).1 ∧ ((zr_l1 c m mo S).1 = 0 → ∀ i, m ≤ i → i < S 0 15 → ¬ S 15 (S 14 i) = 0 → (S 13 i < 1000 → ¬ S 15 (S 13 i) = 0) ∧ (1000 ≤ S 13 i → ¬ S 16 (S 13 i - 1000) = 0))
  | 0, m, mo, S, hp, hm => ⟨jst.rf, fun _ i h1 h2 => by omega⟩
  | c + 1, m, mo, S, hp, hm => by
    obtain ⟨T, mo', q1, q2, q3⟩ := jst.l1 (mo := mo) hp (m := m) (by omega)
    have o := q1.2.2.1
    obtain ⟨i1, i2⟩ := jst.l1s c (m + 1) mo' T (hp.jst q1) (by rw [o _ _ (by decide) (by decide)]; omega)
    rw [q2 c]
    refine ⟨q1.tr i1, fun z i h1 h2 h3 => ?_⟩
    have z1 := (i1.2.2.2.2.2 z).1
    obtain ⟨-, s2⟩ := q1.2.2.2.2.2 z1
    by_cases e : i = m
    · subst e
      exact q3 z1 h3
    · have := i2 z i (by omega) (by rw [o _ _ (by decide) (by decide)]; exact h2)
      rw [o 14 i (by decide) (by decide), o 13 i (by decide) (by decide)] at this
      obtain ⟨r1, r2⟩ := this (q1.2.1.1 _ h3)
      exact ⟨fun w => s2.1 _ (r1 w), fun w => s2.2 _ (r2 w)⟩
/-- one epoch -/
theorem jst.k1 {S : (Nat → Nat → Nat)} {k mo : Nat} (hk : k + 1 < 121) (hr : ∀ hk ht, jcl S hk ht → hk k → hk (k + 1)) : jst S (zr_k1 mo S k).2 mo (zr_k1 mo S k).1 ∧ ((zr_k1 mo S k).1 = 0 → ¬ S 15 k = 0 → ¬ S 15 (k + 1) = 0) := by
  unfold zr_k1
  by_cases c : S 15 k = 0
  · rw [if_pos c]
    exact ⟨jst.rf, fun _ q => absurd c q⟩
  · rw [if_neg c]
    refine ⟨jst.k hk (fun h1 h2 q r => hr h1 h2 q (r.1 _ c)), fun q _ z => ?_⟩
    dsimp only at q
    rw [if_pos z] at q
    omega
theorem jst.l2s {S : (Nat → Nat → Nat)} (hp : zr_lp S) {e mo : Nat} (h1 : 1 ≤ e) (h2 : e < S 0 0) : jst S (zr_l2s e mo S).2 mo (zr_l2s e mo S).1 ∧ ((zr_l2s e mo S).1 = 0 → (¬ S 15 (S 5 e) = 0 → ¬ S 15 (S 5 e + 1) = 0) ∧ (¬ S 15 (S 5 e + 1) = 0 → ¬ S 15 (S 5 e + 2) = 0) ∧ (¬ S 16 (e - 1) = 0 → ¬ S 15 (S 5 e + 2) = 0 → ¬ S 16 e = 0)) := by
  have b := hp.2.2.2 e h1 h2
  obtain ⟨a1, a2⟩ := jst.k1 (S := S) (mo := mo) (k := S 5 e) (by omega) (fun hk ht q => (q.2 e h1 h2).1)
  have h2' : e < (zr_k1 mo S (S 5 e)).2 0 0 := by rw [a1.2.2.1 _ _ (by decide) (by decide)]; exact h2
  have e5 : (zr_k1 mo S (S 5 e)).2 5 e = S 5 e := a1.2.2.1 _ _ (by decide) (by decide)
  obtain ⟨b1, b2⟩ := jst.k1 (S := (zr_k1 mo S (S 5 e)).2) (mo := (zr_k1 mo S (S 5 e)).1) (k := S 5 e + 1) (by omega) (fun hk ht q => by have := (q.2 e h1 h2').2.1; rw [e5] at this; exact this)
  have ab := a1.tr b1
  unfold zr_l2s
  generalize zr_k1 (zr_k1 mo S (S 5 e)).1 (zr_k1 mo S (S 5 e)).2 (S 5 e + 1) = R at b1 b2 ab
  split
  · rename_i c
    have h2'' : e < R.2 0 0 := by rw [ab.2.2.1 _ _ (by decide) (by decide)]; exact h2
    have e5' : R.2 5 e = S 5 e := ab.2.2.1 _ _ (by decide) (by decide)
    have := jst.t (S := R.2) (w := e) (mo := R.1) (by have := hp.1; omega) (fun hk ht q r => by
      have z := (q.2 e h1 h2'').2.2
      rw [e5'] at z
      exact z (r.2 _ c.2.1) (r.1 _ c.2.2))
    rw [if_pos c.1] at this
    exact ⟨ab.tr this, fun q => absurd q (by decide : ¬ (1 : Nat) = 0)⟩
  · rename_i c
    refine ⟨ab, fun q => ?_⟩
    obtain ⟨r1, r2⟩ := b1.2.2.2.2.2 q
    obtain ⟨s1, s2⟩ := ab.2.2.2.2.2 q
    obtain ⟨t1, t2⟩ := a1.2.2.2.2.2 r1
    refine ⟨a2 r1, fun z => t2.1 _ (b2 q (a1.2.1.1 _ z)), fun z w => ?_⟩
    refine s2.2 _ (fun v => c ⟨v, ab.2.1.2 _ z, ab.2.1.1 _ w⟩)
theorem jst.l2a : ∀ (c e mo : Nat) (S : (Nat → Nat → Nat)), zr_lp S → 1 ≤ e → (S 0 0 = 0 → c = 0) → (S 0 0 ≠ 0 → e + c = S 0 0) → jst S (zr_l2 c e mo S).2 mo (zr_l2 c e mo S).1 ∧ ((zr_l2 c e mo S).1 = 0 → ∀ i, e ≤ i → i < S 0 0 → (¬ S 15 (S 5 i) = 0 → ¬ S 15 (S 5 i + 1) = 0) ∧ (¬ S 15 (S 5 i + 1) = 0 → ¬ S 15 (S 5 i + 2) = 0) ∧ (¬ S 16 (i - 1) = 0 → ¬ S 15 (S 5 i + 2) = 0 → ¬ S 16 i = 0))
  | 0, e, mo, S, hp, h1, h0, hc => ⟨jst.rf, fun _ i q1 q2 => by omega⟩
  | c + 1, e, mo, S, hp, h1, h0, hc => by
    have hne : S 0 0 ≠ 0 := fun q => by have := h0 q; omega
    have hc := hc hne
    obtain ⟨q1, q2⟩ := jst.l2s (mo := mo) hp h1 (show e < S 0 0 by omega)
    have o := q1.2.2.1
    obtain ⟨i1, i2⟩ := jst.l2a c (e + 1) (zr_l2s e mo S).1 (zr_l2s e mo S).2 (hp.jst q1) (by omega) (by rw [o _ _ (by decide) (by decide)]; omega) (by rw [o _ _ (by decide) (by decide)]; omega)
    rw [zr_l2]
    refine ⟨q1.tr i1, fun z i g1 g2 => ?_⟩
    have z1 := (i1.2.2.2.2.2 z).1
    obtain ⟨-, s2⟩ := q1.2.2.2.2.2 z1
    by_cases w : i = e
    · subst w
      exact q2 z1
    · have := i2 z i (by omega) (by rw [o _ _ (by decide) (by decide)]; exact g2)
      rw [o 5 i (by decide) (by decide)] at this
      obtain ⟨r1, r2, r3⟩ := this
      exact ⟨fun v => s2.1 _ (r1 (q1.2.1.1 _ v)), fun v => s2.1 _ (r2 (q1.2.1.1 _ v)), fun v u => s2.2 _ (r3 (q1.2.1.2 _ v) (q1.2.1.1 _ u))⟩
theorem jst.learn {S : (Nat → Nat → Nat)} (hp : zr_lp S) : jst S (zr_learn S).2 0 (zr_learn S).1 ∧ ((zr_learn S).1 = 0 → jcl S (fun k => ¬ S 15 k = 0) (fun e => ¬ S 16 e = 0)) := by
  obtain ⟨a1, a2⟩ := jst.l1s (S 0 15) 0 0 S hp (Nat.zero_add _)
  have o := a1.2.2.1
  have hb := jst.l2a (S 0 0 - 1) 1 (zr_l1 (S 0 15) 0 0 S).1 (zr_l1 (S 0 15) 0 0 S).2 (hp.jst a1) (Nat.le_refl _) (by rw [o _ _ (by decide) (by decide)]; omega) (by rw [o _ _ (by decide) (by decide)]; omega)
  obtain ⟨b1, b2⟩ := hb
  refine ⟨a1.tr b1, fun z => ?_⟩
  have z1 := (b1.2.2.2.2.2 z).1
  obtain ⟨-, s2⟩ := a1.2.2.2.2.2 z1
  refine ⟨fun m hm => a2 z1 m (Nat.zero_le _) hm, fun e h1 h2 => ?_⟩
  have := b2 z e h1 (by rw [o _ _ (by decide) (by decide)]; exact h2)
  rw [o 5 e (by decide) (by decide)] at this
  obtain ⟨r1, r2, r3⟩ := this
  exact ⟨fun v => s2.1 _ (r1 (a1.2.1.1 _ v)), fun v => s2.1 _ (r2 (a1.2.1.1 _ v)), fun v u => s2.2 _ (r3 (a1.2.1.2 _ v) (a1.2.1.1 _ u))⟩
theorem zr_gr_cl (c : Nat) : ∀ (S : (Nat → Nat → Nat)), zr_lp S → 142 < jcn S + c → (∀ hk ht, jcl S hk ht → jle S hk ht → jle (zr_gr c S) hk ht) ∧ jle S (fun k => ¬ zr_gr c S 15 k = 0) (fun e => ¬ zr_gr c S 16 e = 0) ∧ jcl S (fun k => ¬ zr_gr c S 15 k = 0) (fun e => ¬ zr_gr c S 16 e = 0) := by
  induction c with
  | zero =>
    intro S hp h
    have := jcn_le S
    omega
  | succ c ih =>
    intro S hp h
    obtain ⟨a1, a2⟩ := jst.learn hp
    have o := a1.2.2.1
    have e1 : zr_gr (c + 1) S = if (zr_learn S).1 = 0 then (zr_learn S).2 else zr_gr c (zr_learn S).2 := rfl
    by_cases z : (zr_learn S).1 = 0
    · rw [if_pos z] at e1
      rw [e1]
      refine ⟨a1.1, a1.2.1, ?_⟩
      have cl := a2 z
      obtain ⟨-, s2⟩ := a1.2.2.2.2.2 z
      refine ⟨fun m hm v => ?_, fun e h1 h2 => ?_⟩
      · obtain ⟨r1, r2⟩ := cl.1 m hm (s2.1 _ v)
        exact ⟨fun w => a1.2.1.1 _ (r1 w), fun w => a1.2.1.2 _ (r2 w)⟩
      · obtain ⟨r1, r2, r3⟩ := cl.2 e h1 h2
        exact ⟨fun v => a1.2.1.1 _ (r1 (s2.1 _ v)), fun v => a1.2.1.1 _ (r2 (s2.1 _ v)), fun v u => a1.2.1.2 _ (r3 (s2.2 _ v) (s2.1 _ u))⟩
    · rw [if_neg z] at e1
      rw [e1]
      have gt : jcn S < jcn (zr_learn S).2 := by
        rcases a1.2.2.2.2.1 z with w | w
        · exact absurd rfl w
        · exact w
      obtain ⟨i1, i2, i3⟩ := ih (zr_learn S).2 (hp.jst a1) (by omega)
      refine ⟨fun hk ht q r => i1 hk ht (q.same o) (a1.1 hk ht q r), ⟨fun k q => i2.1 k (a1.2.1.1 k q), fun k q => i2.2 k (a1.2.1.2 k q)⟩, i3.same fun k j p q => (o k j p q).symm⟩
theorem zr_gr_least {S : (Nat → Nat → Nat)} (hp : zr_lp S) : (∀ hk ht, jcl S hk ht → jle S hk ht → jle (zr_gr 150 S) hk ht) ∧ jle S (fun k => ¬ zr_gr 150 S 15 k = 0) (fun e => ¬ zr_gr 150 S 16 e = 0) ∧ jcl S (fun k => ¬ zr_gr 150 S 15 k = 0) (fun e => ¬ zr_gr 150 S 16 e = 0) := zr_gr_cl 150 S hp (by omega)
