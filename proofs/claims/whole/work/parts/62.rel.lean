/-! CLASS AND REFERENCE SIDE BY SIDE -/
abbrev an (n l : Nat) : Prop := n = (8 + l) / 2 ∨ n = (8 + l) / 4 ∨ n = 1
/-- a tree as it should be: keys up to m; no leaf has unmerged leaves; the unmerged lie below; below each node that is not blank there is a leaf with a key that is not unmerged -/
def wt (m : Nat) (K U : Nat → Nat) : Prop := (∀ n, 1 ≤ n → n < 16 → K n ≤ m) ∧ (∀ l, l < 8 → U (8 + l) = 0) ∧ (∀ n l, 1 ≤ n → n < 8 → l < 8 → ¬ zq_bt (U n) l = 0 → an n l) ∧ (∀ n, 1 ≤ n → n < 8 → ¬ K n = 0 → (∃ l, l < 8 ∧ an n l ∧ ¬ K (8 + l) = 0 ∧ zq_bt (U n) l = 0)) ∧ ∀ n l, 1 ≤ n → n < 8 → l < 8 → ¬ zq_bt (U n) l = 0 → ¬ K (8 + l) = 0
theorem wt.mono {m m' : Nat} {K U : Nat → Nat} (h : wt m K U) (q : m ≤ m') : wt m' K U := ⟨fun n h1 h2 => Nat.le_trans (h.1 n h1 h2) q, h.2⟩
def jmm (X S : (Nat → Nat → Nat)) (m e i : Nat) : Prop := S 14 m = X (45 + 8 * e + 5) i ∧ (X (45 + 8 * e + 7) i = 0 ∧ S 13 m = 1000 + e ∨ ¬ X (45 + 8 * e + 7) i = 0 ∧ S 13 m = X (45 + 8 * e + 7) i)
def jA1 (X S : (Nat → Nat → Nat)) (e : Nat) : Prop := (∀ n, 1 ≤ n → n < 16 → X (45 + 8 * e + 2) n = S 1 (e * 16 + n) ∧ X (45 + 8 * e + 3) n = S 2 (e * 16 + n)) ∧ wt (S 0 1) (fun n => S 1 (e * 16 + n)) (fun n => S 2 (e * 16 + n))
def jA2 (X S : (Nat → Nat → Nat)) (e : Nat) : Prop := X (45 + 8 * e) 4 = S 3 e ∧ X (45 + 8 * e + 6) 1 = S 4 e ∧ zc_ms X (45 + 8 * e) ∧ zc_pt X (45 + 8 * e) ∧ jor X e (S 5 e) ∧ S 5 e + 2 ≤ S 0 1 ∧ (∀ f, 1 ≤ f → f < e → S 5 f + 2 < S 5 e) ∧ ∀ l, l < 8 → ¬ S 1 ((e - 1) * 16 + (8 + l)) = 0 → zq_bt (S 3 e) l = 0 → ¬ S 1 (e * 16 + (8 + l)) = 0
def jA3 (X S : (Nat → Nat → Nat)) : Prop := S 0 15 ≤ 16 * S 0 0 ∧ (∀ m, m < S 0 15 → ∃ e i, 1 ≤ e ∧ e < S 0 0 ∧ i < X (45 + 8 * e + 6) 1 ∧ jmm X S m e i) ∧ ∀ e i, 1 ≤ e → e < S 0 0 → i < X (45 + 8 * e + 6) 1 → ∃ m, m < S 0 15 ∧ jmm X S m e i
def jA (X S : (Nat → Nat → Nat)) : Prop := (∀ e, e < S 0 0 → jA1 X S e) ∧ (∀ e, 1 ≤ e → e < S 0 0 → jA2 X S e) ∧ jA3 X S
theorem jA1.same {X S Y T : (Nat → Nat → Nat)} {e : Nat} (h : jA1 X S e) (hX : ∀ a j, 45 ≤ a → Y a j = X a j) (hS : ∀ k j, k = 1 ∨ k = 2 → T k j = S k j) (hm : S 0 1 ≤ T 0 1) : jA1 Y T e := by
  refine ⟨fun n h1 h2 => ?_, ?_⟩
  · rw [hX _ _ (by omega), hX _ _ (by omega), hS 1 _ (by omega), hS 2 _ (by omega)]
    exact h.1 n h1 h2
  · simp only [hS 1 _ (Or.inl rfl), hS 2 _ (Or.inr rfl)]
    exact h.2.mono hm
theorem jA2.same {X S Y T : (Nat → Nat → Nat)} {e : Nat} (h : jA2 X S e) (hX : ∀ a j, 45 ≤ a → Y a j = X a j) (hS : ∀ k j, k = 1 ∨ k = 3 ∨ k = 4 ∨ k = 5 → T k j = S k j) (hm : S 0 1 ≤ T 0 1) : jA2 Y T e := by
  obtain ⟨a1, a2, a3, a4, a5, a6, a7, a8⟩ := h
  unfold jA2
  rw [hX _ _ (by omega), hX _ _ (by omega), hS 3 e (by omega), hS 4 e (by omega), hS 5 e (by omega)]
  refine ⟨a1, a2, a3.same (by omega) hX, a4.same (by omega) hX, a5.same hX, by omega, fun f h1 h2 => ?_, fun l hl => ?_⟩
  · rw [hS 5 f (by omega)]
    exact a7 f h1 h2
  · rw [hS 1 _ (by omega), hS 1 _ (by omega)]
    exact a8 l hl
theorem jA3.same {X S Y T : (Nat → Nat → Nat)} (h : jA3 X S) (hX : ∀ a j, 45 ≤ a → Y a j = X a j) (hS : ∀ k j, k = 13 ∨ k = 14 → T k j = S k j) (h0 : T 0 0 = S 0 0) (h15 : T 0 15 = S 0 15) : jA3 Y T := by
  unfold jA3
  rw [h0, h15]
  refine ⟨h.1, fun m hm => ?_, fun e i h1 h2 h3 => ?_⟩
  · obtain ⟨e, i, h1, h2, h3, h4⟩ := h.2.1 m hm
    refine ⟨e, i, h1, h2, by rw [hX _ _ (by omega)]; exact h3, ?_⟩
    unfold jmm
    rw [hX _ _ (by omega), hX _ _ (by omega), hS 13 _ (by omega), hS 14 _ (by omega)]
    exact h4
  · rw [hX _ _ (by omega)] at h3
    obtain ⟨m, hm, h4⟩ := h.2.2 e i h1 h2 h3
    refine ⟨m, hm, ?_⟩
    unfold jmm
    rw [hX _ _ (by omega), hX _ _ (by omega), hS 13 _ (by omega), hS 14 _ (by omega)]
    exact h4
theorem jA.same {X S Y T : (Nat → Nat → Nat)} (h : jA X S) (hX : ∀ a j, 45 ≤ a → Y a j = X a j) (hS : ∀ k j, 1 ≤ k ∧ k < 6 ∨ k = 13 ∨ k = 14 → T k j = S k j) (h0 : T 0 0 = S 0 0) (h15 : T 0 15 = S 0 15) (hm : S 0 1 ≤ T 0 1) : jA Y T := by
  refine ⟨fun e he => ?_, fun e h1 he => ?_, h.2.2.same hX (fun k j q => hS k j (by omega)) h0 h15⟩
  · exact (h.1 e (by omega)).same hX (fun k j q => hS k j (by omega)) hm
  · exact (h.2.1 e h1 (by omega)).same hX (fun k j q => hS k j (by omega)) hm
theorem jA.cl {X S : (Nat → Nat → Nat)} (h : jA X S) {hk ht : Nat → Prop} : jcl S hk ht ↔ ∀ e, 1 ≤ e → e < S 0 0 → jec X e (S 5 e) hk ht := by
  constructor
  · rintro ⟨q1, q2⟩ e h1 h2
    have ms := (h.2.1 e h1 h2).2.2.1
    refine ⟨fun i hi v => ?_, q2 e h1 h2⟩
    obtain ⟨m, hm, e1, e2⟩ := h.2.2.2.2 e i h1 h2 hi
    obtain ⟨r1, r2⟩ := q1 m hm (by rw [e1]; exact v)
    have b := (ms.2.2 i hi).2.2
    refine ⟨fun z => ?_, fun z => ?_⟩
    · rcases e2 with ⟨c1, c2⟩ | ⟨c1, c2⟩
      · have := r2 (by omega)
        rwa [c2, Nat.add_sub_cancel_left] at this
      · exact absurd z c1
    · rcases e2 with ⟨c1, c2⟩ | ⟨c1, c2⟩
      · exact absurd c1 z
      · have := r1 (by omega)
        rwa [c2] at this
  · intro q
    refine ⟨fun m hm v => ?_, fun e h1 h2 => (q e h1 h2).2⟩
    obtain ⟨e, i, h1, h2, h3, e1, e2⟩ := h.2.2.2.1 m hm
    have ms := (h.2.1 e h1 h2).2.2.1
    have b := (ms.2.2 i h3).2.2
    obtain ⟨r1, r2⟩ := (q e h1 h2).1 i h3 (by rw [← e1]; exact v)
    rcases e2 with ⟨c1, c2⟩ | ⟨c1, c2⟩
    · refine ⟨fun z => by omega, fun _ => ?_⟩
      rw [c2, Nat.add_sub_cancel_left]
      exact r1 c1
    · refine ⟨fun _ => ?_, fun z => by omega⟩
      rw [c2]
      exact r2 c1
theorem jA.lp {X S : (Nat → Nat → Nat)} (h : jA X S) (h0 : S 0 0 ≤ 21) (h1 : S 0 1 ≤ 120) : zr_lp S := by
  refine ⟨h0, by have := h.2.2.1; omega, fun m hm => ?_, fun e e1 e2 => ?_⟩
  · obtain ⟨e, i, q1, q2, q3, e1, e2⟩ := h.2.2.2.1 m hm
    have ms := (h.2.1 e q1 q2).2.2.1
    obtain ⟨b1, b2, b3⟩ := ms.2.2 i q3
    refine ⟨by omega, ?_, ?_⟩ <;> rcases e2 with ⟨c1, c2⟩ | ⟨c1, c2⟩ <;> omega
  · have := (h.2.1 e e1 e2).2.2.2.2.2.1
    omega
/-! the listener -/
def jL (X S : (Nat → Nat → Nat)) : Prop := jcl S (fun k => ¬ X 14 k = 0) (fun e => ¬ X 15 e = 0) ∧ jle S (fun k => ¬ X 14 k = 0) (fun e => ¬ X 15 e = 0) ∧ (∀ hk ht, jcl S hk ht → jle S hk ht → jlx X hk ht) ∧ (∀ k, ¬ X 14 k = 0 → 1 ≤ k ∧ k ≤ S 0 1) ∧ ∀ e, ¬ X 15 e = 0 → e < S 0 0
theorem jL.same {X S Y T : (Nat → Nat → Nat)} (h : jL X S) (hX : ∀ a j, a = 14 ∨ a = 15 → Y a j = X a j) (hS : ∀ k j, k = 5 ∨ 13 ≤ k ∧ k < 17 → T k j = S k j) (h0 : T 0 0 = S 0 0) (h15 : T 0 15 = S 0 15) (hm : S 0 1 ≤ T 0 1) : jL Y T := by
  have cl : ∀ hk ht, jcl T hk ht ↔ jcl S hk ht := by
    intro hk ht
    unfold jcl
    rw [h0, h15]
    simp only [hS 13 _ (by omega), hS 14 _ (by omega), hS 5 _ (by omega)]
  have le : ∀ hk ht, jle T hk ht ↔ jle S hk ht := by
    intro hk ht
    unfold jle
    simp only [hS 15 _ (by omega), hS 16 _ (by omega)]
  unfold jL
  simp only [cl, le, h0]
  obtain ⟨a, b, c, d, e⟩ := h
  unfold jlx at c ⊢
  simp only [hX 14 _ (Or.inl rfl), hX 15 _ (Or.inr rfl)]
  exact ⟨a, b, c, fun k q => ⟨(d k q).1, Nat.le_trans (d k q).2 hm⟩, e⟩
theorem jL.eq {X S : (Nat → Nat → Nat)} (h : jL X S) (hp : zr_lp S) : (∀ k, ¬ X 14 k = 0 ↔ ¬ zr_gr 150 S 15 k = 0) ∧ ∀ e, ¬ X 15 e = 0 ↔ ¬ zr_gr 150 S 16 e = 0 := by
  obtain ⟨g1, g2, g3⟩ := zr_gr_least hp
  have a := g1 _ _ h.1 h.2.1
  have b := h.2.2.1 _ _ g3 g2
  exact ⟨fun k => ⟨b.1 k, a.1 k⟩, fun e => ⟨b.2 e, a.2 e⟩⟩
theorem jL.gr {X S : (Nat → Nat → Nat)} (h : jL X S) (hp : zr_lp S) : jL X (zr_gr 150 S) := by
  have o : ∀ k j, k ≠ 15 → k ≠ 16 → zr_gr 150 S k j = S k j := fun k j a b => zr_gr_o a b 150 S
  obtain ⟨e1, e2⟩ := h.eq hp
  refine ⟨h.1.same o, ⟨fun k => (e1 k).mpr, fun e => (e2 e).mpr⟩, fun hk ht q r => ⟨fun k z => r.1 k ((e1 k).mp z), fun e z => r.2 e ((e2 e).mp z)⟩, ?_, ?_⟩
  · rw [o _ _ (by decide) (by decide)]
    exact h.2.2.2.1
  · rw [o _ _ (by decide) (by decide)]
    exact h.2.2.2.2
/-! the persons -/
def jP (X S : (Nat → Nat → Nat)) : Prop := ∀ p, p < 10 → X (2 + p) 0 = S 6 p ∧ X (2 + p) 1 = S 8 p ∧ X (2 + p) 2 = S 9 p ∧ X (2 + p) 3 = S 7 p ∧ (S 6 p = 2 → S 8 p < S 0 0 ∧ ¬ S 1 (S 8 p * 16 + (8 + S 9 p)) = 0) ∧ (S 6 p = 1 → 1 ≤ S 7 p) ∧ S 7 p ≤ S 0 1 ∧ S 8 p < 21 ∧ (S 0 0 = 0 → S 8 p = 0 ∧ S 9 p = 0)
/-! the proposals -/
def zc_ls (X : (Nat → Nat → Nat)) (q : Nat) : List Nat := (List.range (X q 1)).map (X (q + 1))
def zr_pl (S : (Nat → Nat → Nat)) (k : Nat) : List Nat := ((List.range (S 0 11)).filter (fun i => S 10 i == k)).map (S 11)
def jQ (X S : (Nat → Nat → Nat)) : Prop := (zc_ls X 16 = zr_pl S 0 ∧ zc_ls X 18 = zr_pl S 1 ∧ zc_ls X 20 = zr_pl S 2) ∧ (∀ i, i < S 0 11 → S 10 i ≤ 2) ∧ (∀ k, (zr_pl S k).Nodup) ∧ (∀ i, i < S 0 11 → S 10 i = 0 → S 6 (S 11 i) = 2 ∧ S 8 (S 11 i) + 1 = S 0 0 ∧ 1 ≤ S 12 i ∧ S 12 i ≤ S 0 1 ∧ X (2 + S 11 i) 4 = S 12 i) ∧ (∀ p, p < 10 → p ∉ zr_pl S 0 → X (2 + p) 4 = 0) ∧ (∀ i, i < S 0 11 → S 10 i = 1 → S 11 i < 8 ∧ ¬ S 1 ((S 0 0 - 1) * 16 + (8 + S 11 i)) = 0) ∧ (∀ i, i < S 0 11 → S 10 i = 2 → S 6 (S 11 i) = 1) ∧ (S 0 0 = 0 → S 0 11 = 0) ∧ (zr_pl S 2).length ≤ zr_bl S (S 0 0 - 1) 8 8 + (zr_pl S 1).length
theorem zr_pl_mem {S : (Nat → Nat → Nat)} {k w : Nat} : w ∈ zr_pl S k ↔ ∃ i, i < S 0 11 ∧ S 10 i = k ∧ S 11 i = w := by
  unfold zr_pl
  simp only [List.mem_map, List.mem_filter, List.mem_range, beq_iff_eq]
  constructor
  · rintro ⟨i, ⟨a, b⟩, c⟩
    exact ⟨i, a, b, c⟩
  · rintro ⟨i, a, b, c⟩
    exact ⟨i, ⟨a, b⟩, c⟩
theorem zc_ls_mem {X : (Nat → Nat → Nat)} {q w : Nat} : w ∈ zc_ls X q ↔ zc_in X q w := by
  unfold zc_ls zc_in
  simp only [List.mem_map, List.mem_range]
theorem zc_ls_len {X : (Nat → Nat → Nat)} {q : Nat} : (zc_ls X q).length = X q 1 := by simp [zc_ls]
theorem zr_pl_congr {S T : (Nat → Nat → Nat)} (h0 : T 0 11 = S 0 11) (h10 : ∀ i, i < S 0 11 → T 10 i = S 10 i) (h11 : ∀ i, i < S 0 11 → T 11 i = S 11 i) (k : Nat) : zr_pl T k = zr_pl S k := by
  unfold zr_pl
  rw [h0]
  have e : (List.range (S 0 11)).filter (fun i => T 10 i == k) = (List.range (S 0 11)).filter (fun i => S 10 i == k) := List.filter_congr fun i hi => by rw [h10 i (List.mem_range.mp hi)]
  rw [e]
  refine List.map_congr_left fun i hi => ?_
  exact h11 i (List.mem_range.mp (List.mem_filter.mp hi).1)
theorem zc_ls_congr {X Y : (Nat → Nat → Nat)} {q : Nat} (h0 : Y q 1 = X q 1) (h1 : ∀ i, i < X q 1 → Y (q + 1) i = X (q + 1) i) : zc_ls Y q = zc_ls X q := by
  unfold zc_ls
  rw [h0]
  exact List.map_congr_left fun i hi => h1 i (List.mem_range.mp hi)
theorem zr_fd_none {S : (Nat → Nat → Nat)} {k w : Nat} : ∀ (c i : Nat), zr_fd S k w c i = none ↔ ∀ j, i ≤ j → j < i + c → ¬ (S 10 j = k ∧ S 11 j = w)
  | 0, i => by simp [zr_fd]; omega
  | c + 1, i => by
    rw [zr_fd]
    by_cases h : S 10 i = k ∧ S 11 i = w
    · rw [if_pos h]
      simp only [reduceCtorEq, false_iff]
      intro q
      exact q i (Nat.le_refl _) (by omega) h
    · rw [if_neg h, zr_fd_none c (i + 1)]
      constructor
      · intro q j a b
        by_cases e : j = i
        · rw [e]; exact h
        · exact q j (by omega) (by omega)
      · intro q j a b
        exact q j (by omega) (by omega)
theorem zr_fi_none {S : (Nat → Nat → Nat)} {k w : Nat} : zr_fi S k w = none ↔ w ∉ zr_pl S k := by
  unfold zr_fi
  rw [zr_fd_none, zr_pl_mem]
  constructor
  · rintro q ⟨i, a, b, c⟩
    exact q i (Nat.zero_le _) (by omega) ⟨b, c⟩
  · intro q j _ b c
    exact q ⟨j, by omega, c.1, c.2⟩
theorem zr_fd_some {S : (Nat → Nat → Nat)} {k w : Nat} : ∀ (c i j : Nat), zr_fd S k w c i = some j → i ≤ j ∧ j < i + c ∧ S 10 j = k ∧ S 11 j = w
  | 0, i, j, h => by cases h
  | c + 1, i, j, h => by
    rw [zr_fd] at h
    by_cases q : S 10 i = k ∧ S 11 i = w
    · rw [if_pos q] at h
      cases h
      exact ⟨Nat.le_refl _, by omega, q.1, q.2⟩
    · rw [if_neg q] at h
      obtain ⟨a, b, c⟩ := zr_fd_some c (i + 1) j h
      exact ⟨by omega, by omega, c⟩
theorem zr_fi_some {S : (Nat → Nat → Nat)} {k w j : Nat} (h : zr_fi S k w = some j) : j < S 0 11 ∧ S 10 j = k ∧ S 11 j = w := by
  obtain ⟨-, b, c⟩ := zr_fd_some _ _ _ h
  exact ⟨by omega, c⟩
theorem zr_mn_len {S : (Nat → Nat → Nat)} {k : Nat} : ∀ (c i : Nat), zr_mn S k c i = ((List.range' i c).filter (fun i => S 10 i == k)).length
  | 0, i => rfl
  | c + 1, i => by
    rw [zr_mn, zr_mn_len c (i + 1), List.range'_succ, List.filter_cons]
    by_cases h : S 10 i = k
    · simp [h]; omega
    · simp [h]
theorem zr_mn_pl {S : (Nat → Nat → Nat)} {k : Nat} : zr_mn S k (S 0 11) 0 = (zr_pl S k).length := by
  rw [zr_mn_len, zr_pl, List.length_map, List.range_eq_range']
theorem zr_pl_sum {S : (Nat → Nat → Nat)} (h : ∀ i, i < S 0 11 → S 10 i ≤ 2) : (zr_pl S 0).length + (zr_pl S 1).length + (zr_pl S 2).length = S 0 11 := by
  rw [← zr_mn_pl, ← zr_mn_pl, ← zr_mn_pl]
  have key : ∀ (c i : Nat), i + c = S 0 11 → zr_mn S 0 c i + zr_mn S 1 c i + zr_mn S 2 c i = c := by
    intro c
    induction c with
    | zero => intro i _; rfl
    | succ c ih =>
      intro i hi
      have := ih (i + 1) (by omega)
      have b := h i (by omega)
      rw [zr_mn, zr_mn, zr_mn]
      have : S 10 i = 0 ∨ S 10 i = 1 ∨ S 10 i = 2 := by omega
      rcases this with q | q | q <;> simp [q] <;> omega
  exact key _ _ (Nat.zero_add _)
theorem nodup_len : ∀ (n : Nat) (xs : List Nat), xs.Nodup → (∀ x ∈ xs, x < n) → xs.length ≤ n
  | 0, xs, _, h => by
    cases xs with
    | nil => exact Nat.le_refl _
    | cons x xs => exact absurd (h x List.mem_cons_self) (Nat.not_lt_zero x)
  | n + 1, xs, hn, h => by
    by_cases c : n ∈ xs
    · have := nodup_len n (xs.erase n) (hn.erase n) (fun x hx => by
        have h1 := h x (List.mem_of_mem_erase hx)
        have h2 : x ≠ n := fun q => by
          subst q
          exact (List.Nodup.not_mem_erase hn) hx
        omega)
      rw [List.length_erase_of_mem c] at this
      omega
    · have := nodup_len n xs hn (fun x hx => by
        have h1 := h x hx
        have h2 : x ≠ n := fun q => c (q ▸ hx)
        omega)
      omega
def J (X S : (Nat → Nat → Nat)) : Prop := (zr_ok S ∧ zc_lg X ∧ X 0 8 = S 0 0 ∧ S 0 0 ≤ 21 ∧ X 0 9 = S 0 1 ∧ S 0 1 ≤ 120) ∧ jP X S ∧ jA X S ∧ jQ X S ∧ jL X S
