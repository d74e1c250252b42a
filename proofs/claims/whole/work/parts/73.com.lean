def phi (e : Nat) (r : Nat × Nat) : Nat × Nat := (if r.1 = 0 then 1000 + (e + 1) else r.1, r.2)
/-- the new tree, the messages, and the state before them -/
def Msg (X S : (Nat → Nat → Nat)) (p e : Nat) (X7 S6 : (Nat → Nat → Nat)) (c8 cmm : List (Nat × Nat)) : Prop := (∀ n, 1 ≤ n → n < 16 → X7 (45 + 8 * (e + 1) + 2) n = if n = 8 + S 9 p then S 0 1 + 1 else if n = (8 + S 9 p) / 2 then S 0 1 + 2 else if n = (8 + S 9 p) / 4 then S 0 1 + 3 else if n = 1 then S 0 1 + 4 else S6 1 (336 + n)) ∧ (∀ n, 1 ≤ n → n < 16 → X7 (45 + 8 * (e + 1) + 3) n = if n = 8 + S 9 p ∨ an n (S 9 p) then 0 else S6 2 (336 + n)) ∧ wt (S 0 1 + 4) (X7 (45 + 8 * (e + 1) + 2)) (X7 (45 + 8 * (e + 1) + 3)) ∧ cmm = c8.map (phi e) ∧ (∀ r ∈ c8, 1 ≤ r.2 ∧ r.2 ≤ S 0 1 ∧ (r.1 = 0 ∨ S 0 1 + 2 ≤ r.1 ∧ r.1 ≤ S 0 1 + 4)) ∧ c8.length ≤ 14 ∧ (∀ x, x < 16 → ((8 ≤ x ∧ ¬ zq_bt (X7 (45 + 8 * (e + 1)) 5) (x - 8) = 0) ↔ zr_ad S6 x = true))
set_option maxHeartbeats 1000000 in
theorem J.msg {X S : (Nat → Nat → Nat)} {p e : Nat} (h : J X S) (hp : p < 10) (M : Mid X S p e (zc_c6 X e p) (zr_c3 S p e)) : Msg X S p e (zc_c7 X e p) (zr_c3 S p e) (zc_c8 X e p (zr_ad (zr_c3 S p e))) (zr_cmm S p e) ∧ (∀ a j, a ≠ 45 + 8 * (e + 1) + 2 → a ≠ 45 + 8 * (e + 1) + 3 → ¬ (a = 0 ∧ j = 9) → zc_c7 X e p a j = zc_c6 X e p a j) ∧ zc_c7 X e p 0 9 = S 0 1 + 4 := by
  have fe := h.few
  obtain ⟨⟨b1, b2, b3, b4, b5, b6⟩, hP, hA, hQ, hL⟩ := h
  obtain ⟨⟨q1, q2, q3⟩, q4, q5, q6, q7, q8, q9, q10, q11⟩ := hQ
  obtain ⟨p1, p2, p3, p4, p5, p6, p7, p8, p9⟩ := hP p hp
  obtain ⟨t1, t2, ct, stay, pe, old, new, bits, own, un, rem, fX, x8, x1, x4, x6, fS⟩ := M
  have l8 := b1.2.2.1 p
  unfold zc_c8 zr_cmm
  rw [p3]
  have e7 : zc_c7 X e p = zc_rp (45 + 8 * (e + 1)) 4 (8 + S 9 p) (zc_c6 X e p) := by unfold zc_c7; rw [p3]
  rw [e7]
  generalize zc_c6 X e p = X6 at *
  generalize zr_c3 S p e = S6 at *
  have m9 : X6 0 9 = S 0 1 := (fX _ _ (by omega) (by omega) (by omega)).trans b5
  have v7 := zc_rp_v (X := X6) (l := S 9 p) (k := 45 + 8 * (e + 1)) l8
  rw [m9] at v7
  generalize zc_rp (45 + 8 * (e + 1)) 4 (8 + S 9 p) X6 = X7 at *
  have o7 : ∀ a j, a ≠ 45 + 8 * (e + 1) + 2 → a ≠ 45 + 8 * (e + 1) + 3 → ¬ (a = 0 ∧ j = 9) → X7 a j = X6 a j := fun a j z1 z2 z3 => by
    rw [v7, if_neg z3, if_neg (by omega), if_neg (by omega), if_neg (by omega), if_neg (by omega), if_neg (by omega)]
  have K7 : ∀ n, 1 ≤ n → n < 16 → X7 (45 + 8 * (e + 1) + 2) n = if n = 8 + S 9 p then S 0 1 + 1 else if n = (8 + S 9 p) / 2 then S 0 1 + 2 else if n = (8 + S 9 p) / 4 then S 0 1 + 3 else if n = 1 then S 0 1 + 4 else S6 1 (336 + n) := fun n h1 h2 => by
    rw [v7, if_neg (by omega), (t1 n h1 h2).1]
    by_cases z1 : n = 8 + S 9 p
    · rw [if_pos ⟨rfl, z1⟩, if_pos z1]
    · rw [if_neg (fun z => z1 z.2), if_neg z1]
      by_cases z2 : n = (8 + S 9 p) / 2
      · rw [if_pos ⟨rfl, z2⟩, if_pos z2]
      · rw [if_neg (fun z => z2 z.2), if_neg z2]
        by_cases z3 : n = (8 + S 9 p) / 4
        · rw [if_pos ⟨rfl, z3⟩, if_pos z3]
        · rw [if_neg (fun z => z3 z.2), if_neg z3]
          by_cases z4 : n = 1
          · rw [if_pos ⟨rfl, z4⟩, if_pos z4]
          · rw [if_neg (fun z => z4 z.2), if_neg z4, if_neg (by omega)]
  have U7 : ∀ n, 1 ≤ n → n < 16 → X7 (45 + 8 * (e + 1) + 3) n = if n = 8 + S 9 p ∨ an n (S 9 p) then 0 else S6 2 (336 + n) := fun n h1 h2 => by
    rw [v7, if_neg (by omega), if_neg (by omega), if_neg (by omega), if_neg (by omega), if_neg (by omega), (t1 n h1 h2).2]
    by_cases z : n = 8 + S 9 p ∨ an n (S 9 p)
    · rw [if_pos z, if_pos (by omega)]
    · rw [if_neg z, if_neg (by omega)]
  have w7 : wt (S 0 1 + 4) (X7 (45 + 8 * (e + 1) + 2)) (X7 (45 + 8 * (e + 1) + 3)) := t2.path l8 K7 U7
  have mem : ∀ i, i < S 0 11 → S 10 i = 2 → S 11 i ∈ zr_pl S 2 := fun i a b => zr_pl_mem.mpr ⟨i, a, b, rfl⟩
  have ad : ∀ x, zr_ad S6 x = true ↔ ∃ q, q ∈ zr_pl S 2 ∧ S6 9 q + 8 = x := fun x => by
    rw [← zr_ad_iff]
    constructor
    · rintro ⟨j, -, a, b, c⟩
      rw [fS _ _ (by omega) (by omega) (by omega) (by omega) (by omega)] at a b
      rw [fS 11 _ (by omega) (by omega) (by omega) (by omega) (by omega)] at c
      exact ⟨_, mem j a b, c⟩
    · rintro ⟨q, a, b⟩
      obtain ⟨i, c1, c2, c3⟩ := zr_pl_mem.mp a
      refine ⟨i, Nat.zero_le _, ?_, ?_, ?_⟩
      · rw [fS _ _ (by omega) (by omega) (by omega) (by omega) (by omega)]; exact c1
      · rw [fS _ _ (by omega) (by omega) (by omega) (by omega) (by omega)]; exact c2
      · rw [fS 11 _ (by omega) (by omega) (by omega) (by omega) (by omega), c3]; exact b
  have adl : ∀ l, l < 8 → (zr_ad S6 (8 + l) = true ↔ ¬ zq_bt (X6 (45 + 8 * (e + 1)) 5) l = 0) := fun l hl => by
    rw [ad, bits l hl]
    constructor
    · rintro ⟨q, a, b⟩
      exact ⟨q, a, by omega⟩
    · rintro ⟨q, a, b⟩
      exact ⟨q, a, by omega⟩
  have adn : ∀ n, n < 8 → zr_ad S6 n = false := fun n hn => by
    cases z : zr_ad S6 n
    · rfl
    · obtain ⟨q, -, b⟩ := (ad n).mp z
      omega
  have adb : ∀ l, l < 8 → zr_ad S6 (8 + l) = !(zq_bt (X6 (45 + 8 * (e + 1)) 5) l == 0) := fun l hl => by
    have := adl l hl
    by_cases z : zq_bt (X6 (45 + 8 * (e + 1)) 5) l = 0
    · rw [z]
      cases y : zr_ad S6 (8 + l)
      · rfl
      · exact absurd z (this.mp y)
    · rw [this.mpr z, beq_false_of_ne z]
      rfl
  obtain ⟨g1, g2, g3⟩ := pm_eq (ad := zr_ad S6) t2 l8 K7 U7
  have pc := path_ct t2 adb adn (fun n l h1 h2 h3 z1 z2 z3 => un n l h1 h2 h3 z1 z2 (by
    intro z
    rw [z] at z3
    cases z3)) l8 (by rw [own.1]; rfl)
  rw [ct] at pc
  have eL : (List.range' 0 (X 20 1)).map (X 21) = zr_pl S 2 := by rw [← q3, ← List.range_eq_range']; rfl
  have eR : ((List.range' 0 (S 0 11)).filter (fun i => S 10 i == 2)).map (S 11) = zr_pl S 2 := by rw [← List.range_eq_range']; rfl
  have seat : ∀ q, q ∈ zr_pl S 2 → q < 10 ∧ X7 (2 + q) 2 = S6 9 q ∧ S6 9 q < 8 ∧ X7 (2 + q) 3 = S 7 q ∧ 1 ≤ S 7 q ∧ S 7 q ≤ S 0 1 := fun q hq => by
    obtain ⟨i, c1, c2, c3⟩ := zr_pl_mem.mp hq
    have q10 : q < 10 := by rw [← c3]; exact b1.2.2.2.1 i
    have s1 := q9 i c1 c2
    rw [c3] at s1
    obtain ⟨d1, d2, d3, d4, d5, d6, d7, d8, d9⟩ := hP q q10
    rw [o7 _ _ (by omega) (by omega) (by omega), o7 _ _ (by omega) (by omega) (by omega), (pe q q10).2.2, fX _ _ (by omega) (by omega) (by omega)]
    exact ⟨q10, rfl, (new q hq).2.2.1, d4, d6 s1, d7⟩
  have carry : ∀ q, q ∈ zr_pl S 2 → X7 (45 + 8 * (e + 1) + 2) (zc_lp 2 ((8 + S 9 p) / 2) ((8 + S6 9 q) / 2)) = S 0 1 + 1 + zr_me (8 + S 9 p) (8 + S6 9 q) 3 1 ∧ 1 ≤ zr_me (8 + S 9 p) (8 + S6 9 q) 3 1 ∧ zr_me (8 + S 9 p) (8 + S6 9 q) 3 1 ≤ 3 := fun q hq => by
    obtain ⟨c1, c2, c3⟩ := lp_me (S 9 p) l8 (S6 9 q) (seat q hq).2.2.1
    refine ⟨?_, c2, c3⟩
    rw [c1]
    generalize zr_me (8 + S 9 p) (8 + S6 9 q) 3 1 = u at c2 c3
    have : u = 1 ∨ u = 2 ∨ u = 3 := by omega
    rcases this with rfl | rfl | rfl
    · rw [Nat.pow_one, K7 _ (by omega) (by omega), if_neg (by omega), if_pos rfl]
    · rw [show 2 ^ 2 = 4 from rfl, K7 _ (by omega) (by omega), if_neg (by omega), if_neg (by omega), if_pos rfl]
    · rw [show 2 ^ 3 = 8 from rfl, show (8 + S 9 p) / 8 = 1 from by omega, K7 _ (by omega) (by omega), if_neg (by omega), if_neg (by omega), if_neg (by omega), if_pos rfl]
  rw [g1, we_fm, wel_fm, eL, eR]
  refine ⟨⟨K7, U7, w7, ?_, fun r hr => ?_, ?_, fun x hx => ?_⟩, o7, ?_⟩
  · rw [List.map_append]
    congr 1
    · have : ∀ r ∈ zr_pm (fun x => S6 1 (336 + x)) (fun x => S6 2 (336 + x)) (zr_ad S6) 3 (8 + S 9 p) ((8 + S 9 p) / 2) (S 0 1), phi e r = id r := fun r hr => by
        have := g2 r hr
        unfold phi
        rw [if_neg (by omega)]
        rfl
      rw [List.map_congr_left this, List.map_id]
    · refine fm_map _ fun q hq => ?_
      obtain ⟨s1, s2, s3, s4, s5, s6⟩ := seat q hq
      obtain ⟨c1, c2, c3⟩ := carry q hq
      simp only [s2, s4, c1, List.map_cons, List.map_nil, phi]
      rw [if_neg (by omega), if_pos trivial]
  · rcases List.mem_append.mp hr with y | y
    · have := g2 r y
      omega
    · obtain ⟨q, hq, z⟩ := List.mem_flatMap.mp y
      obtain ⟨s1, s2, s3, s4, s5, s6⟩ := seat q hq
      obtain ⟨c1, c2, c3⟩ := carry q hq
      simp only [s2, s4, c1] at z
      rcases List.mem_cons.mp z with z | z
      · rw [z]
        exact ⟨s5, s6, Or.inr ⟨by show _ ≤ S 0 1 + 1 + _; omega, by show S 0 1 + 1 + _ ≤ _; omega⟩⟩
      · rw [List.mem_singleton.mp z]
        exact ⟨s5, s6, Or.inl rfl⟩
  · have len : (List.flatMap (fun q => [(X7 (45 + 8 * (e + 1) + 2) (zc_lp 2 ((8 + S 9 p) / 2) ((8 + X7 (2 + q) 2) / 2)), X7 (2 + q) 3), (0, X7 (2 + q) 3)]) (zr_pl S 2)).length = 2 * (zr_pl S 2).length := fm_len _ fun x => rfl
    rw [List.length_append, g3, len]
    omega
  · rw [o7 _ _ (by omega) (by omega) (by omega)]
    by_cases z : 8 ≤ x
    · obtain ⟨l, rfl⟩ : ∃ l, x = 8 + l := ⟨x - 8, by omega⟩
      rw [adl l (by omega), Nat.add_sub_cancel_left]
      exact ⟨fun y => y.2, fun y => ⟨z, y⟩⟩
    · rw [adn x (by omega)]
      exact ⟨fun y => absurd y.1 z, fun y => by cases y⟩
  · rw [v7, if_pos ⟨rfl, rfl⟩]
/-! what is sent, place by place -/
theorem zc_sm_v {k : Nat} : ∀ (ms : List (Nat × Nat)) (X : (Nat → Nat → Nat)) (n : Nat), X (k + 4) 1 = n → X (k + 6) 1 = n → n + ms.length ≤ 16 → zc_sm k X ms (k + 4) 1 = n + ms.length ∧ zc_sm k X ms (k + 6) 1 = n + ms.length ∧ (∀ i r, ms[i]? = some r → zc_sm k X ms (k + 5) (n + i) = r.2 ∧ zc_sm k X ms (k + 7) (n + i) = r.1) ∧ ∀ i, i < n → zc_sm k X ms (k + 5) i = X (k + 5) i ∧ zc_sm k X ms (k + 7) i = X (k + 7) i
  | [], X, n, h4, h6, hl => ⟨h4, h6, fun i r h => by simp at h, fun i hi => ⟨rfl, rfl⟩⟩
  | q :: ms, X, n, h4, h6, hl => by
    rw [List.length_cons] at hl
    have l4 : X (k + 4) 1 < 16 := by omega
    have a6 : zc_ap X (k + 4) 16 q.2 (k + 6) 1 = X (k + 6) 1 := zc_ap_o (by omega) (by omega)
    have l6 : zc_ap X (k + 4) 16 q.2 (k + 6) 1 < 16 := by omega
    have d4 : zc_sd X k q.2 q.1 (k + 4) 1 = n + 1 := by
      unfold zc_sd
      rw [zc_ap_o (by omega) (by omega), zc_ap_n l4, h4]
    have d6 : zc_sd X k q.2 q.1 (k + 6) 1 = n + 1 := by
      unfold zc_sd
      rw [zc_ap_n l6, a6, h6]
    have d5 : zc_sd X k q.2 q.1 (k + 5) n = q.2 := by
      unfold zc_sd
      rw [zc_ap_o (by omega) (by omega), ← h4]
      exact zc_ap_v l4
    have d7 : zc_sd X k q.2 q.1 (k + 7) n = q.1 := by
      unfold zc_sd
      have := zc_ap_v (x := q.1) l6
      rw [a6, h6] at this
      exact this
    have lo : ∀ i, i < n → zc_sd X k q.2 q.1 (k + 5) i = X (k + 5) i ∧ zc_sd X k q.2 q.1 (k + 7) i = X (k + 7) i := fun i hi => by
      unfold zc_sd
      constructor
      · rw [zc_ap_o (by omega) (by omega)]
        exact zc_ap_lo (by omega)
      · refine (zc_ap_lo (k := k + 6) (by omega)).trans ?_
        exact zc_ap_o (by omega) (by omega)
    obtain ⟨r1, r2, r3, r4⟩ := zc_sm_v ms (zc_sd X k q.2 q.1) (n + 1) d4 d6 (by omega)
    rw [zc_sm, List.length_cons]
    refine ⟨by omega, by omega, fun i r hi => ?_, fun i hi => ?_⟩
    · cases i with
      | zero =>
        simp at hi
        rw [← hi, show n + 0 = n from rfl, (r4 n (by omega)).1, (r4 n (by omega)).2, d5, d7]
        exact ⟨rfl, rfl⟩
      | succ i =>
        have := r3 i r (by simpa using hi)
        rw [show n + (i + 1) = n + 1 + i from by omega]
        exact this
    · rw [(r4 i (by omega)).1, (r4 i (by omega)).2]
      exact lo i hi
theorem zr_sm_v : ∀ (ms : List (Nat × Nat)) (S : (Nat → Nat → Nat)), zr_sm S ms 0 15 = S 0 15 + ms.length ∧ (∀ i r, ms[i]? = some r → zr_sm S ms 13 (S 0 15 + i) = r.1 ∧ zr_sm S ms 14 (S 0 15 + i) = r.2) ∧ ∀ i, i < S 0 15 → zr_sm S ms 13 i = S 13 i ∧ zr_sm S ms 14 i = S 14 i
  | [], S => ⟨rfl, fun i r h => by simp at h, fun i hi => ⟨rfl, rfl⟩⟩
  | q :: ms, S => by
    have d0 : zr_sd S q.1 q.2 0 15 = S 0 15 + 1 := by unfold zr_sd; rw [zq_up_s]
    have d3 : zr_sd S q.1 q.2 13 (S 0 15) = q.1 := by unfold zr_sd; rw [zq_up_o (by decide), zq_up_o (by decide), zq_up_s]
    have d4 : zr_sd S q.1 q.2 14 (S 0 15) = q.2 := by unfold zr_sd; rw [zq_up_o (by decide), zq_up_s]
    have lo : ∀ i, i < S 0 15 → zr_sd S q.1 q.2 13 i = S 13 i ∧ zr_sd S q.1 q.2 14 i = S 14 i := fun i hi => by
      unfold zr_sd
      rw [zq_up_o (by decide), zq_up_o (by decide), zq_up_k (by omega), zq_up_o (by decide), zq_up_k (by omega), zq_up_o (by decide)]
      exact ⟨rfl, rfl⟩
    obtain ⟨r1, r2, r3⟩ := zr_sm_v ms (zr_sd S q.1 q.2)
    rw [d0] at r1 r2 r3
    rw [zr_sm, List.length_cons]
    refine ⟨by omega, fun i r hi => ?_, fun i hi => ?_⟩
    · cases i with
      | zero =>
        simp at hi
        rw [← hi, Nat.add_zero, (r3 _ (by omega)).1, (r3 _ (by omega)).2, d3, d4]
        exact ⟨rfl, rfl⟩
      | succ i =>
        have := r2 i r (by simpa using hi)
        rw [show S 0 15 + (i + 1) = S 0 15 + 1 + i from by omega]
        exact this
    · rw [(r3 i (by omega)).1, (r3 i (by omega)).2]
      exact lo i hi
