theorem J.pr {X S : (Nat → Nat → Nat)} (h : J X S) : zc_pr X := by
  obtain ⟨⟨b1, b2, b3, b4, b5, b6⟩, hP, hA, hQ, hL⟩ := h
  obtain ⟨⟨q1, q2, q3⟩, q4, q5, q6, q7, q8, q9, q10, q11⟩ := hQ
  have m0 : ∀ x ∈ zr_pl S 0, x < 10 := fun x hx => by
    obtain ⟨i, -, -, e⟩ := zr_pl_mem.mp hx
    rw [← e]
    exact b1.2.2.2.1 i
  have m1 : ∀ x ∈ zr_pl S 1, x < 8 := fun x hx => by
    obtain ⟨i, hi, k, e⟩ := zr_pl_mem.mp hx
    rw [← e]
    exact (q8 i hi k).1
  have m2 : ∀ x ∈ zr_pl S 2, x < 10 := fun x hx => by
    obtain ⟨i, -, -, e⟩ := zr_pl_mem.mp hx
    rw [← e]
    exact b1.2.2.2.1 i
  refine ⟨b2.1, ?_, ?_, ?_, fun i hi => ?_, fun i hi => ?_, fun i hi => ?_, fun p hp => ?_⟩
  · rw [← zc_ls_len (X := X) (q := 16), q1]
    exact nodup_len 10 _ (q5 0) m0
  · rw [← zc_ls_len (X := X) (q := 18), q2]
    exact nodup_len 8 _ (q5 1) m1
  · rw [← zc_ls_len (X := X) (q := 20), q3]
    exact nodup_len 10 _ (q5 2) m2
  · exact m0 _ (by rw [← q1, zc_ls_mem]; exact ⟨i, hi, rfl⟩)
  · exact m1 _ (by rw [← q2, zc_ls_mem]; exact ⟨i, hi, rfl⟩)
  · exact m2 _ (by rw [← q3, zc_ls_mem]; exact ⟨i, hi, rfl⟩)
  · rw [(hP p hp).2.2.1]
    exact b1.2.2.1 p
theorem zr_bl_congr {S T : (Nat → Nat → Nat)} {row : Nat} (h : ∀ j, T 1 j = S 1 j) : ∀ (c l : Nat), zr_bl T row c l = zr_bl S row c l
  | 0, _ => rfl
  | c + 1, l => by rw [zr_bl, zr_bl, zr_bl_congr h c, h]
/-- the relation says nothing of the cells that are used again and again, and little of the counts -/
theorem jQ.same {X S Y T : (Nat → Nat → Nat)} (h : jQ X S) (hX : ∀ a j, 16 ≤ a ∧ a < 22 → Y a j = X a j) (h4 : ∀ p, p < 10 → Y (2 + p) 4 = X (2 + p) 4) (hw : ∀ i, S 11 i < 10) (hS : ∀ k j, k = 1 ∨ 10 ≤ k ∧ k < 13 → T k j = S k j) (h0 : T 0 0 = S 0 0) (h11 : T 0 11 = S 0 11) (hm : S 0 1 ≤ T 0 1) (hu : ∀ p, p < 10 → S 6 p = 2 → S 8 p + 1 = S 0 0 → T 6 p = 2 ∧ T 8 p = S 8 p) (hj : ∀ p, p < 10 → S 6 p = 1 → T 6 p = 1) : jQ Y T := by
  obtain ⟨⟨q1, q2, q3⟩, q4, q5, q6, q7, q8, q9, q10, q11⟩ := h
  have e : ∀ k, zr_pl T k = zr_pl S k := zr_pl_congr h11 (fun i _ => hS 10 i (by omega)) (fun i _ => hS 11 i (by omega))
  have e16 : ∀ q, q = 16 ∨ q = 18 ∨ q = 20 → zc_ls Y q = zc_ls X q := fun q hq => zc_ls_congr (hX _ _ (by omega)) (fun i _ => hX _ _ (by omega))
  unfold jQ
  rw [h0, h11, zr_bl_congr (fun j => hS 1 j (by omega))]
  simp only [e, e16 16 (by omega), e16 18 (by omega), e16 20 (by omega)]
  refine ⟨⟨q1, q2, q3⟩, fun i hi => ?_, q5, fun i hi hk => ?_, fun p hp hn => ?_, fun i hi hk => ?_, fun i hi hk => ?_, q10, q11⟩
  · rw [hS 10 i (by omega)]
    exact q4 i hi
  · rw [hS 10 i (by omega)] at hk
    rw [hS 11 i (by omega), hS 12 i (by omega), h4 _ (hw i)]
    obtain ⟨z1, z2, z3, z4, z5⟩ := q6 i hi hk
    obtain ⟨u1, u2⟩ := hu _ (hw i) z1 z2
    rw [u1, u2]
    exact ⟨rfl, z2, z3, by omega, z5⟩
  · rw [h4 p hp]
    exact q7 p hp hn
  · rw [hS 10 i (by omega)] at hk
    rw [hS 11 i (by omega), hS 1 _ (by omega)]
    exact q8 i hi hk
  · rw [hS 10 i (by omega)] at hk
    rw [hS 11 i (by omega)]
    exact hj _ (hw i) (q9 i hi hk)
theorem jP.same {X S Y T : (Nat → Nat → Nat)} (h : jP X S) (hX : ∀ p j, p < 10 → j < 4 → Y (2 + p) j = X (2 + p) j) (hS : ∀ k j, k = 1 ∨ 6 ≤ k ∧ k < 10 → T k j = S k j) (h0 : T 0 0 = S 0 0) (hm : S 0 1 ≤ T 0 1) : jP Y T := by
  intro p hp
  obtain ⟨a1, a2, a3, a4, a5, a6, a7, a8, a9⟩ := h p hp
  rw [hX p 0 hp (by omega), hX p 1 hp (by omega), hX p 2 hp (by omega), hX p 3 hp (by omega), hS 6 p (by omega), hS 7 p (by omega), hS 8 p (by omega), hS 9 p (by omega), hS 1 _ (by omega), h0]
  exact ⟨a1, a2, a3, a4, a5, a6, by omega, a8, a9⟩
theorem zc_lg.same {X Y : (Nat → Nat → Nat)} (h : zc_lg X) (hb : zr_bd Y) (hX : ∀ a j, a = 13 ∨ a = 14 ∨ a = 15 → Y a j = X a j) : zc_lg Y := by
  refine ⟨hb, ?_, ?_⟩
  · rw [hX _ _ (by omega), h.2.1]
    exact zr_ct_congr _ _ (fun j _ _ => by rw [hX 14 j (by omega)])
  · rw [hX _ _ (by omega), h.2.2]
    exact zr_ct_congr _ _ (fun j _ _ => by rw [hX 15 j (by omega)])
theorem J.eq {X S Y T : (Nat → Nat → Nat)} (h : J X S) (hX : zc_eq X Y) (hb : zr_bd Y) (hS : zr_eq S T) (hc : zr_bd T) : J Y T := by
  obtain ⟨⟨b1, b2, b3, b4, b5, b6⟩, hP, hA, hQ, hL⟩ := h
  have o : ∀ k j, k < 17 → T k j = S k j := fun k j q => hS k j (by omega) (by omega)
  refine ⟨⟨hS.ok b1 hc, b2.same hb fun a j q => hX a j (by omega), ?_, ?_, ?_, ?_⟩, hP.same (fun p j hp _ => hX _ _ (by omega)) (fun k j q => o k j (by omega)) (o _ _ (by omega)) (Nat.le_of_eq (o _ _ (by omega)).symm), hA.same (fun a j q => hX a j (by omega)) (fun k j q => o k j (by omega)) (o _ _ (by omega)) (o _ _ (by omega)) (Nat.le_of_eq (o _ _ (by omega)).symm), hQ.same (fun a j q => hX a j (by omega)) (fun p hp => hX _ _ (by omega)) b1.2.2.2.1 (fun k j q => o k j (by omega)) (o _ _ (by omega)) (o _ _ (by omega)) (Nat.le_of_eq (o _ _ (by omega)).symm) (fun p hp q r => ⟨by rw [o _ _ (by omega)]; exact q, o _ _ (by omega)⟩) (fun p hp q => by rw [o _ _ (by omega)]; exact q), hL.same (fun a j q => hX a j (by omega)) (fun k j q => o k j (by omega)) (o _ _ (by omega)) (o _ _ (by omega)) (Nat.le_of_eq (o _ _ (by omega)).symm)⟩
  · rw [hX _ _ (by omega), o _ _ (by omega)]; exact b3
  · rw [o _ _ (by omega)]; exact b4
  · rw [hX _ _ (by omega), o _ _ (by omega)]; exact b5
  · rw [o _ _ (by omega)]; exact b6
theorem J.lp {X S : (Nat → Nat → Nat)} (h : J X S) : zr_lp S := h.2.2.1.lp h.1.2.2.2.1 h.1.2.2.2.2.2
theorem J.gr {X S : (Nat → Nat → Nat)} (h : J X S) : J X (zr_gr 150 S) := by
  have lp := h.lp
  obtain ⟨⟨b1, b2, b3, b4, b5, b6⟩, hP, hA, hQ, hL⟩ := h
  have o : ∀ k j, k ≠ 15 → k ≠ 16 → zr_gr 150 S k j = S k j := fun k j a b => zr_gr_o a b 150 S
  refine ⟨⟨b1.gr 150, b2, ?_, ?_, ?_, ?_⟩, hP.same (fun _ _ _ _ => rfl) (fun k j q => o k j (by omega) (by omega)) (o _ _ (by omega) (by omega)) (Nat.le_of_eq (o _ _ (by omega) (by omega)).symm), hA.same (fun _ _ _ => rfl) (fun k j q => o k j (by omega) (by omega)) (o _ _ (by omega) (by omega)) (o _ _ (by omega) (by omega)) (Nat.le_of_eq (o _ _ (by omega) (by omega)).symm), hQ.same (fun _ _ _ => rfl) (fun _ _ => rfl) b1.2.2.2.1 (fun k j q => o k j (by omega) (by omega)) (o _ _ (by omega) (by omega)) (o _ _ (by omega) (by omega)) (Nat.le_of_eq (o _ _ (by omega) (by omega)).symm) (fun p hp q r => ⟨by rw [o _ _ (by omega) (by omega)]; exact q, o _ _ (by omega) (by omega)⟩) (fun p hp q => by rw [o _ _ (by omega) (by omega)]; exact q), hL.gr lp⟩
  · rw [o _ _ (by omega) (by omega)]; exact b3
  · rw [o _ _ (by omega) (by omega)]; exact b4
  · rw [o _ _ (by omega) (by omega)]; exact b5
  · rw [o _ _ (by omega) (by omega)]; exact b6
theorem zr_rl_congr {K U K' U' : Nat → Nat} (hK : ∀ m, 1 ≤ m → m < 16 → K m = K' m) (hU : ∀ m, 1 ≤ m → m < 16 → U m = U' m) : ∀ (c m : Nat), 1 ≤ m → m < 16 → zr_rl K U c m = zr_rl K' U' c m
  | 0, _, _, _ => rfl
  | c + 1, m, h1, h2 => by
    rw [zr_rl, zr_rl, hK m h1 h2, hU m h1 h2]
    by_cases h8 : m < 8
    · rw [zr_rl_congr hK hU c (2 * m) (by omega) (by omega), zr_rl_congr hK hU c (2 * m + 1) (by omega) (by omega)]
    · rw [if_neg h8, if_neg h8]
theorem zr_re_congr {K U K' U' : Nat → Nat} (hK : ∀ m, 1 ≤ m → m < 16 → K m = K' m) (hU : ∀ m, 1 ≤ m → m < 16 → U m = U' m) {m : Nat} (h1 : 1 ≤ m) (h2 : m < 16) : zr_re K U m = zr_re K' U' m := zr_rl_congr hK hU _ m h1 h2
/-! what a person holds -/
theorem zc_ht_mem {K U : Nat → Nat} {l v : Nat} : ∀ (c n : Nat), v ∈ zc_ht K U l c n ↔ ∃ j, j < c ∧ ¬ n / 2 ^ j = 0 ∧ ¬ K (n / 2 ^ j) = 0 ∧ zq_bt (U (n / 2 ^ j)) l = 0 ∧ K (n / 2 ^ j) = v
  | 0, n => by
    simp [zc_ht]
  | c + 1, n => by
    have ih := zc_ht_mem (K := K) (U := U) (l := l) (v := v) c (n / 2)
    have sh : ∀ j, n / 2 / 2 ^ j = n / 2 ^ (j + 1) := fun j => by rw [Nat.div_div_eq_div_mul, Nat.pow_succ, Nat.mul_comm]
    rw [zc_ht]
    by_cases z : n = 0
    · rw [if_pos z]
      simp only [List.not_mem_nil, false_iff]
      rintro ⟨j, -, q, -⟩
      rw [z, Nat.zero_div] at q
      exact q rfl
    · rw [if_neg z]
      have head : ∀ (Q : Prop), (Q ↔ (¬ K n = 0 ∧ zq_bt (U n) l = 0 ∧ K n = v) ∨ v ∈ zc_ht K U l c (n / 2)) → (Q ↔ ∃ j, j < c + 1 ∧ ¬ n / 2 ^ j = 0 ∧ ¬ K (n / 2 ^ j) = 0 ∧ zq_bt (U (n / 2 ^ j)) l = 0 ∧ K (n / 2 ^ j) = v) := by
        intro Q hQ
        rw [hQ, ih]
        constructor
        · rintro (q | ⟨j, a, b⟩)
          · exact ⟨0, by omega, by simpa using z, by simpa using q⟩
          · rw [sh] at b
            exact ⟨j + 1, by omega, b⟩
        · rintro ⟨j, a, b, q⟩
          cases j with
          | zero => left; simpa using q
          | succ j => right; rw [← sh] at b q; exact ⟨j, by omega, b, q⟩
      apply head
      by_cases q : K n = 0 ∨ ¬ zq_bt (U n) l = 0
      · rw [if_pos q]
        constructor
        · exact Or.inr
        · rintro (⟨a, b, -⟩ | a)
          · rcases q with q | q
            · exact absurd q a
            · exact absurd b q
          · exact a
      · rw [if_neg q, List.mem_cons]
        constructor
        · rintro (a | a)
          · exact Or.inl ⟨fun z => q (Or.inl z), Classical.not_not.mp (fun z => q (Or.inr z)), a.symm⟩
          · exact Or.inr a
        · rintro (⟨-, -, a⟩ | a)
          · exact Or.inl a.symm
          · exact Or.inr a
theorem zr_hl_iff {S : (Nat → Nat → Nat)} {a l k : Nat} : ∀ (c n : Nat), zr_hl S a l k c n ↔ ∃ j, j < c ∧ ¬ n / 2 ^ j = 0 ∧ S 1 (a * 16 + n / 2 ^ j) = k ∧ zq_bt (S 2 (a * 16 + n / 2 ^ j)) l = 0
  | 0, n => by simp [zr_hl]
  | c + 1, n => by
    have sh : ∀ j, n / 2 / 2 ^ j = n / 2 ^ (j + 1) := fun j => by rw [Nat.div_div_eq_div_mul, Nat.pow_succ, Nat.mul_comm]
    rw [zr_hl, zr_hl_iff c (n / 2)]
    constructor
    · rintro ⟨z, (q | ⟨j, a, b⟩)⟩
      · exact ⟨0, by omega, by simpa using z, by simpa using q⟩
      · rw [sh] at b
        exact ⟨j + 1, by omega, b⟩
    · rintro ⟨j, a, b, q⟩
      refine ⟨fun z => b (by rw [z, Nat.zero_div]), ?_⟩
      cases j with
      | zero => left; simpa using q
      | succ j => right; rw [← sh] at b q; exact ⟨j, by omega, b, q⟩
theorem J.held {X S : (Nat → Nat → Nat)} (h : J X S) {p : Nat} (hp : p < 10) : (∀ v ∈ zc_held X p, 1 ≤ v ∧ v ≤ S 0 1) ∧ ∀ v, 1 ≤ v → (v ∈ zc_held X p ↔ zr_hd S p v) := by
  obtain ⟨⟨b1, b2, b3, b4, b5, b6⟩, hP, hA, hQ, hL⟩ := h
  obtain ⟨p1, p2, p3, p4, p5, p6, p7, p8, p9⟩ := hP p hp
  obtain ⟨⟨q1, q2, q3⟩, q4, q5, q6, q7, q8, q9, q10, q11⟩ := hQ
  have l8 := b1.2.2.1 p
  unfold zc_held zr_hd
  rw [p1, p2, p3, p4]
  by_cases s1 : S 6 p = 1
  · rw [if_pos s1]
    refine ⟨fun v hv => ?_, fun v _ => ?_⟩
    · rw [List.mem_singleton.mp hv]
      exact ⟨p6 s1, p7⟩
    · rw [List.mem_singleton]
      constructor
      · intro e
        exact Or.inl ⟨s1, e.symm⟩
      · rintro (e | e)
        · exact e.2.symm
        · omega
  · rw [if_neg s1]
    by_cases s2 : S 6 p = 2
    · rw [if_pos s2]
      obtain ⟨a1, a2⟩ := p5 s2
      obtain ⟨t1, t2⟩ := hA.1 (S 8 p) a1
      have nd : ∀ j, j < 4 → ¬ (8 + S 9 p) / 2 ^ j = 0 → 1 ≤ (8 + S 9 p) / 2 ^ j ∧ (8 + S 9 p) / 2 ^ j < 16 := fun j hj z => by
        have := Nat.div_le_self (8 + S 9 p) (2 ^ j)
        generalize (8 + S 9 p) / 2 ^ j = t at z this
        omega
      have upd : ∀ v, 1 ≤ v → ((∃ i, zr_fi S 0 p = some i ∧ S 12 i = v) ↔ X (2 + p) 4 = v) := fun v hv => by
        cases hf : zr_fi S 0 p with
        | none =>
          have := q7 p hp (zr_fi_none.mp hf)
          rw [this]
          constructor
          · rintro ⟨i, e, -⟩
            cases e
          · intro e
            omega
        | some i =>
          obtain ⟨i1, i2, i3⟩ := zr_fi_some hf
          have := (q6 i i1 i2).2.2.2.2
          rw [i3] at this
          rw [this]
          constructor
          · rintro ⟨j, e, e2⟩
            cases e
            exact e2
          · intro e
            exact ⟨i, rfl, e⟩
      have ukb : X (2 + p) 4 ≤ S 0 1 := by
        by_cases hm : p ∈ zr_pl S 0
        · obtain ⟨i, i1, i2, i3⟩ := zr_pl_mem.mp hm
          have := q6 i i1 i2
          rw [i3] at this
          omega
        · rw [q7 p hp hm]; omega
      refine ⟨fun v hv => ?_, fun v hv => ?_⟩
      · rcases List.mem_append.mp hv with hv | hv
        · obtain ⟨j, j1, j2, j3, j4, j5⟩ := (zc_ht_mem _ _).mp hv
          obtain ⟨n1, n2⟩ := nd j j1 j2
          rw [(t1 _ n1 n2).1] at j3 j5
          have : S 1 (S 8 p * 16 + (8 + S 9 p) / 2 ^ j) ≤ S 0 1 := t2.1 _ n1 n2
          omega
        · by_cases u : X (2 + p) 4 = 0
          · rw [if_pos u] at hv; cases hv
          · rw [if_neg u] at hv
            rw [List.mem_singleton.mp hv]
            omega
      · rw [List.mem_append, zc_ht_mem]
        have e1 : (v ∈ if X (2 + p) 4 = 0 then [] else [X (2 + p) 4]) ↔ X (2 + p) 4 = v := by
          by_cases u : X (2 + p) 4 = 0
          · rw [if_pos u]
            constructor
            · intro z; cases z
            · intro z; omega
          · rw [if_neg u, List.mem_singleton]
            exact ⟨fun z => z.symm, fun z => z.symm⟩
        rw [e1, ← upd v hv, zr_hl_iff]
        constructor
        · rintro (⟨j, j1, j2, j3, j4, j5⟩ | z)
          · obtain ⟨n1, n2⟩ := nd j j1 j2
            rw [(t1 _ n1 n2).1] at j5
            rw [(t1 _ n1 n2).2] at j4
            exact Or.inr ⟨s2, Or.inr ⟨j, j1, j2, j5, j4⟩⟩
          · exact Or.inr ⟨s2, Or.inl z⟩
        · rintro (z | ⟨-, (z | ⟨j, j1, j2, j3, j4⟩)⟩)
          · omega
          · exact Or.inr z
          · obtain ⟨n1, n2⟩ := nd j j1 j2
            refine Or.inl ⟨j, j1, j2, ?_, ?_, ?_⟩
            · rw [(t1 _ n1 n2).1]; omega
            · rw [(t1 _ n1 n2).2]; exact j4
            · rw [(t1 _ n1 n2).1]; exact j3
    · rw [if_neg s2]
      refine ⟨fun v hv => (by cases hv), fun v _ => ⟨fun hv => (by cases hv), ?_⟩⟩
      rintro (z | z)
      · exact absurd z.1 s1
      · exact absurd z.1 s2
