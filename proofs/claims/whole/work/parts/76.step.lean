/-! ONE CALL ON BOTH -/
theorem zz_comm {g : Nat} {X S : (Nat → Nat → Nat)} {I0 : zq_I} : zx g X (zi (g + 26) S I0) = zi (g + 26) S (zx g X I0) := by
  funext a j
  show (if g ≤ a ∧ ¬ (g + 26 ≤ a ∧ a < g + 45) then xe (a - g) j (X (a - g) j) else if g + 26 ≤ a ∧ a < g + 26 + 19 then ze (a - (g + 26)) j (S (a - (g + 26)) j) else I0 a j) = if g + 26 ≤ a ∧ a < g + 26 + 19 then ze (a - (g + 26)) j (S (a - (g + 26)) j) else if g ≤ a ∧ ¬ (g + 26 ≤ a ∧ a < g + 45) then xe (a - g) j (X (a - g) j) else I0 a j
  by_cases h : g + 26 ≤ a ∧ a < g + 26 + 19
  · rw [if_neg (by omega), if_pos h, if_pos h]
  · rw [if_neg h, if_neg h]
theorem zq_nd (y : Int32) (n : Nat) (hn : n < 100000) : (y < nI 1 ∨ nI n < y) ∨ ∃ k, ¬ k < 1 ∧ ¬ n < k ∧ y = nI k := by
  rcases zq_ix y (n := n + 1) (by omega) with h | h | ⟨j, hj, e⟩
  · exact Or.inl (Or.inl (Int32.lt_trans h (nI_lt (by omega) (by omega))))
  · exact Or.inl (Or.inr (Int32.lt_of_lt_of_le (nI_lt (by omega) (by omega)) h))
  · by_cases z : j < 1
    · exact Or.inl (Or.inl (by rw [e]; exact nI_lt (by omega) (by omega)))
    · exact Or.inr ⟨j, z, by omega, e⟩
theorem zq_two (x : Int32) (n : Nat) (hn : n < 100000) : (x < nI 0 ∨ nI n ≤ x) ∨ ∃ p, p < n ∧ x = nI p := by
  rcases zq_ix x (n := n) (by omega) with h | h | h
  · exact Or.inl (Or.inl h)
  · exact Or.inl (Or.inr h)
  · exact Or.inr h
def jOne (g : Nat) (I0 : zq_I) (X S : (Nat → Nat → Nat)) (sh : zq_S) (P : zq_P) (nx kx mG mM : Nat) (args : List Value) : Prop := ∃ v X' S', zq_C 999 mG (.ref g :: args) sh (zx g X (zi (g + 26) S I0)) P nx kx = some (some (.int v), sh, zx g X' (zi (g + 26) S I0), P, nx, kx) ∧ zq_C 999 mM (.ref (g + 26) :: args) sh (zi (g + 26) S (zx g X' I0)) P nx kx = some (some (.int v), sh, zi (g + 26) S' (zx g X' I0), P, nx, kx) ∧ J X' S' ∧ J0 S' ∧ S' 0 0 = S 0 0
theorem J0.gr {S : (Nat → Nat → Nat)} (h : J0 S) : J0 (zr_gr 150 S) := h.same (zr_gr_o (by decide) (by decide) 150 S) fun _ => ⟨fun k j q => zr_gr_o (by omega) (by omega) 150 S, zr_gr_o (by decide) (by decide) 150 S⟩
theorem o_state {g nx kx : Nat} {I0 : zq_I} {X S : (Nat → Nat → Nat)} {sh : zq_S} {P : zq_P} (h : J X S) (h0 : J0 S) (hG : zc_lay g (S 0 0) sh P) (hM : zr_lay (g + 26) sh P) (x : Int32) : jOne g I0 X S sh P nx kx 10 103 [.int x] := by
  rcases zq_two x 10 (by omega) with q | ⟨p, hp, rfl⟩
  · exact ⟨_, X, S, k_state_x (d := 998) hG q, m_M_state_x (d := 998) hM q, h, h0, rfl⟩
  · refine ⟨_, X, S, k_state (d := 998) hG hp, ?_, h, h0, rfl⟩
    rw [(h.2.1 p hp).1]
    exact m_M_state (d := 998) hM hp
theorem o_epoch {g nx kx : Nat} {I0 : zq_I} {X S : (Nat → Nat → Nat)} {sh : zq_S} {P : zq_P} (h : J X S) (h0 : J0 S) (hG : zc_lay g (S 0 0) sh P) (hM : zr_lay (g + 26) sh P) (x : Int32) : jOne g I0 X S sh P nx kx 11 104 [.int x] := by
  rcases zq_two x 10 (by omega) with q | ⟨p, hp, rfl⟩
  · exact ⟨_, X, S, k_epoch_x (d := 998) hG q, m_M_epoch_x (d := 998) hM q, h, h0, rfl⟩
  · refine ⟨_, X, S, k_epoch (d := 998) hG h.1.2.1.1 hp, ?_, h, h0, rfl⟩
    rw [(h.2.1 p hp).1, (h.2.1 p hp).2.1]
    exact m_M_epoch (d := 998) hM h.1.1.1 hp
theorem o_leaf {g nx kx : Nat} {I0 : zq_I} {X S : (Nat → Nat → Nat)} {sh : zq_S} {P : zq_P} (h : J X S) (h0 : J0 S) (hG : zc_lay g (S 0 0) sh P) (hM : zr_lay (g + 26) sh P) (x : Int32) : jOne g I0 X S sh P nx kx 12 105 [.int x] := by
  rcases zq_two x 10 (by omega) with q | ⟨p, hp, rfl⟩
  · exact ⟨_, X, S, k_leaf_x (d := 998) hG q, m_M_leaf_x (d := 998) hM q, h, h0, rfl⟩
  · refine ⟨_, X, S, k_leaf (d := 998) hG h.1.2.1.1 hp, ?_, h, h0, rfl⟩
    rw [(h.2.1 p hp).1, (h.2.1 p hp).2.2.1]
    exact m_M_leaf (d := 998) hM h.1.1.1 hp
theorem o_key {g nx kx : Nat} {I0 : zq_I} {X S : (Nat → Nat → Nat)} {sh : zq_S} {P : zq_P} (h : J X S) (h0 : J0 S) (hG : zc_lay g (S 0 0) sh P) (hM : zr_lay (g + 26) sh P) (x y : Int32) : jOne g I0 X S sh P nx kx 13 107 [.int x, .int y] := by
  have h8 := h.1.2.2.1
  have h21 := h.1.2.2.2.1
  rcases zq_ep x (S 0 0) (by omega) with q | ⟨e, he, rfl⟩
  · exact ⟨_, X, S, k_key_x (d := 998) hG (by rw [h8]; exact q), m_M_key_x (d := 998) hM q, h, h0, rfl⟩
  · rcases zq_nd y 15 (by omega) with q | ⟨n, n1, n2, rfl⟩
    · exact ⟨_, X, S, k_key_y (d := 998) hG h8 h21 he q, m_M_key_y (d := 998) hM h.1.1.1 he q, h, h0, rfl⟩
    · refine ⟨_, X, S, k_key (d := 997) hG h8 h21 he n1 n2, ?_, h, h0, rfl⟩
      rw [((h.2.2.1.1 e he).1 n (by omega) (by omega)).1]
      exact m_M_key (d := 998) hM h.1.1.1 he (by omega) n1 n2
theorem o_unmerged {g nx kx : Nat} {I0 : zq_I} {X S : (Nat → Nat → Nat)} {sh : zq_S} {P : zq_P} (h : J X S) (h0 : J0 S) (hG : zc_lay g (S 0 0) sh P) (hM : zr_lay (g + 26) sh P) (x y : Int32) : jOne g I0 X S sh P nx kx 14 108 [.int x, .int y] := by
  have h8 := h.1.2.2.1
  have h21 := h.1.2.2.2.1
  rcases zq_ep x (S 0 0) (by omega) with q | ⟨e, he, rfl⟩
  · exact ⟨_, X, S, k_unmerged_x (d := 998) hG (by rw [h8]; exact q), m_M_unmerged_x (d := 998) hM q, h, h0, rfl⟩
  · rcases zq_nd y 15 (by omega) with q | ⟨n, n1, n2, rfl⟩
    · exact ⟨_, X, S, k_unmerged_y (d := 998) hG h8 h21 he q, m_M_unmerged_y (d := 998) hM h.1.1.1 he q, h, h0, rfl⟩
    · refine ⟨_, X, S, k_unmerged (d := 997) hG h8 h21 he n1 n2, ?_, h, h0, rfl⟩
      rw [((h.2.2.1.1 e he).1 n (by omega) (by omega)).2]
      exact m_M_unmerged (d := 998) hM h.1.1.1 he (by omega) n1 n2
theorem o_resolution {g nx kx : Nat} {I0 : zq_I} {X S : (Nat → Nat → Nat)} {sh : zq_S} {P : zq_P} (h : J X S) (h0 : J0 S) (hG : zc_lay g (S 0 0) sh P) (hM : zr_lay (g + 26) sh P) (x y z : Int32) : jOne g I0 X S sh P nx kx 15 109 [.int x, .int y, .int z] := by
  have h8 := h.1.2.2.1
  have h21 := h.1.2.2.2.1
  rcases zq_ep x (S 0 0) (by omega) with q | ⟨e, he, rfl⟩
  · exact ⟨_, X, S, k_resolution_x (d := 998) hG (by rw [h8]; exact q), m_M_resolution_x (d := 998) hM q, h, h0, rfl⟩
  · rcases zq_nd y 15 (by omega) with q | ⟨n, n1, n2, rfl⟩
    · exact ⟨_, X, S, k_resolution_y (d := 998) hG h8 h21 he q, m_M_resolution_y (d := 998) hM h.1.1.1 he q, h, h0, rfl⟩
    · obtain ⟨a1, a2⟩ := h.2.2.1.1 e he
      have re : zr_re (X (45 + 8 * e + 2)) (X (45 + 8 * e + 3)) n = zr_re (fun n => S 1 (e * 16 + n)) (fun n => S 2 (e * 16 + n)) n := zr_re_congr (fun m m1 m2 => (a1 m m1 m2).1) (fun m m1 m2 => (a1 m m1 m2).2) (by omega) (by omega)
      have rl := re_len a2 (n := n) (by omega) (by omega)
      obtain ⟨X', c1, c2, c3⟩ := k_resolution (d := 991) (nx := nx) (kx := kx) (I0 := zi (g + 26) S I0) hG h.1.2.1.1 h8 h21 he n1 n2 (by rw [re]; omega) z
      obtain ⟨S', d1, d2, d3⟩ := m_M_resolution (d := 998) (nx := nx) (kx := kx) (I0 := zx g X' I0) (z := z) hM h.1.1.1 he (by omega) n1 n2 (fun n => S 1 (e * 16 + n)) (fun n => S 2 (e * 16 + n)) (fun _ _ => rfl) (fun _ _ => rfl) (by omega)
      rw [re] at c1
      exact ⟨_, X', S', c1, d1, h.eq c2 c3 d2 d3, h0.same (d2 _ _ (by decide) (by decide)) fun _ => ⟨fun k j q => d2 _ _ (by omega) (by omega), d2 _ _ (by decide) (by decide)⟩, d2 _ _ (by decide) (by decide)⟩
theorem o_sent {g nx kx : Nat} {I0 : zq_I} {X S : (Nat → Nat → Nat)} {sh : zq_S} {P : zq_P} (h : J X S) (h0 : J0 S) (hG : zc_lay g (S 0 0) sh P) (hM : zr_lay (g + 26) sh P) (x : Int32) : jOne g I0 X S sh P nx kx 16 110 [.int x] := by
  have h8 := h.1.2.2.1
  have h21 := h.1.2.2.2.1
  rcases zq_ep x (S 0 0) (by omega) with q | ⟨e, he, rfl⟩
  · refine ⟨_, X, S, k_sent_x (d := 998) hG (by rw [h8]; exact q), m_M_sent_x (d := 999) hM ?_, h, h0, rfl⟩
    rcases q with q | q
    · exact Or.inl (Int32.lt_trans q (nI_lt (by omega) (by omega)))
    · exact Or.inr q
  · refine ⟨_, X, S, k_sent (d := 998) hG h8 h21 he, ?_, h, h0, rfl⟩
    by_cases z : e = 0
    · rw [if_pos z, z]
      exact m_M_sent_x (d := 999) hM (Or.inl (nI_lt (by omega) (by omega)))
    · rw [if_neg z, (h.2.2.1.2.1 e (by omega) he).2.1]
      exact m_M_sent (d := 999) hM h.1.1.1 he (by omega) (by omega)
theorem o_holds {g nx kx : Nat} {I0 : zq_I} {X S : (Nat → Nat → Nat)} {sh : zq_S} {P : zq_P} (h : J X S) (h0 : J0 S) (hG : zc_lay g (S 0 0) sh P) (hM : zr_lay (g + 26) sh P) (x y : Int32) : jOne g I0 X S sh P nx kx 17 97 [.int x, .int y] := by
  have h8 := h.1.2.2.1
  have h21 := h.1.2.2.2.1
  rcases zq_two x 10 (by omega) with q | ⟨p, hp, rfl⟩
  · exact ⟨_, X, S, k_holds_x (d := 998) hG q, m_M_holds_x (d := 998) hM q, h, h0, rfl⟩
  · obtain ⟨v1, v2⟩ := h.held hp
    obtain ⟨p1, p2, p3, p4, p5, p6, p7, p8, p9⟩ := h.2.1 p hp
    have l8 := h.1.1.2.2.1 p
    obtain ⟨x1, x2, -, -⟩ := zc_hx_f (p := p) h.1.2.1.1
    refine ⟨_, zc_hx X p, S, k_holds (d := 994) hG h.1.2.1.1 hp h8 h21 (by omega) (fun z => by rw [p2]; exact (p5 (by omega)).1) y, ?_, h.eq x2 x1 (fun _ _ _ _ => rfl) h.1.1.1, h0, rfl⟩
    rcases zq_nd y (S 0 1) (by have := h.1.2.2.2.2.2; omega) with q | ⟨k, k1, k2, rfl⟩
    · have e : zq_b (∃ v, v ∈ zc_held X p ∧ y = nI v) = nI 0 := zq_b_f (by
        rintro ⟨v, z1, z2⟩
        have := v1 v z1
        have b := h.1.2.2.2.2.2
        rw [z2] at q
        rcases q with q | q
        · rw [zq_lt (by omega) (by omega)] at q
          omega
        · rw [zq_lt (by omega) (by omega)] at q
          omega)
      rw [e]
      exact m_M_holds_y (d := 998) hM hp q
    · have b := h.1.2.2.2.2.2
      rw [zq_b_congr (q := zr_hd S p k)]
      · exact m_M_holds (d := 998) hM h.1.1 hp p8 k1 (by omega)
      · rw [← v2 k (by omega)]
        constructor
        · rintro ⟨v, z1, z2⟩
          have := v1 v z1
          rw [zq_eq (by omega) (by omega)] at z2
          rw [z2]
          exact z1
        · intro z
          exact ⟨k, z, rfl⟩
theorem o_keyHeard {g nx kx : Nat} {I0 : zq_I} {X S : (Nat → Nat → Nat)} {sh : zq_S} {P : zq_P} (h : J X S) (h0 : J0 S) (hG : zc_lay g (S 0 0) sh P) (hM : zr_lay (g + 26) sh P) (x : Int32) : jOne g I0 X S sh P nx kx 18 101 [.int x] := by
  have b := h.1.2.2.2.2.2
  obtain ⟨e1, e2⟩ := h.2.2.2.2.eq h.lp
  refine ⟨_, X, _, k_keyHeard (d := 998) hG h.1.2.1.1 x, ?_, h.gr, h0.gr, zr_gr_o (by decide) (by decide) 150 S⟩
  rw [zq_b_congr]
  · exact m_M_keyHeard (d := 997) hM h.1.1.1 h.lp (by omega) x
  · constructor
    · rintro ⟨k, a1, a2, a3, a4⟩
      exact ⟨k, a1, (h.2.2.2.2.2.2.2.1 k a4).2, a3, (e1 k).mp a4⟩
    · rintro ⟨k, a1, a2, a3, a4⟩
      exact ⟨k, a1, by omega, a3, (e1 k).mpr a4⟩
theorem o_secretHeard {g nx kx : Nat} {I0 : zq_I} {X S : (Nat → Nat → Nat)} {sh : zq_S} {P : zq_P} (h : J X S) (h0 : J0 S) (hG : zc_lay g (S 0 0) sh P) (hM : zr_lay (g + 26) sh P) (x : Int32) : jOne g I0 X S sh P nx kx 19 102 [.int x] := by
  have b := h.1.2.2.2.1
  obtain ⟨e1, e2⟩ := h.2.2.2.2.eq h.lp
  refine ⟨_, X, _, k_secretHeard (d := 998) hG h.1.2.1.1 x, ?_, h.gr, h0.gr, zr_gr_o (by decide) (by decide) 150 S⟩
  rw [zq_b_congr]
  · exact m_M_secretHeard (d := 997) hM h.1.1.1 h.lp x
  · constructor
    · rintro ⟨k, a1, a2, a3⟩
      exact ⟨k, h.2.2.2.2.2.2.2.2 k a3, a2, (e2 k).mp a3⟩
    · rintro ⟨k, a1, a2, a3⟩
      exact ⟨k, by omega, a2, (e2 k).mpr a3⟩
theorem o_count {g nx kx : Nat} {I0 : zq_I} {X S : (Nat → Nat → Nat)} {sh : zq_S} {P : zq_P} (h : J X S) (h0 : J0 S) (hG : zc_lay g (S 0 0) sh P) (hM : zr_lay (g + 26) sh P) (x : Int32) : jOne g I0 X S sh P nx kx 20 111 [.int x] := by
  have b := h.1.2.2.2.2.2
  rcases zq_two x 7 (by omega) with q | ⟨j, hj, rfl⟩
  · exact ⟨_, X, _, k_count_x (d := 999) hG q, m_M_count_x (d := 997) hM h.1.1.1 h.lp q, h.gr, h0.gr, zr_gr_o (by decide) (by decide) 150 S⟩
  · refine ⟨_, X, _, k_count (d := 994) hG h.1.2.1.1 h.1.2.2.1 h.1.2.2.2.1 hj, ?_, h.gr, h0.gr, zr_gr_o (by decide) (by decide) 150 S⟩
    rw [h.count hj]
    exact m_M_count (d := 997) hM h.1.1.1 h.lp (by omega) hj
theorem o_publish {g nx kx : Nat} {I0 : zq_I} {X S : (Nat → Nat → Nat)} {sh : zq_S} {P : zq_P} (h : J X S) (h0 : J0 S) (hG : zc_lay g (S 0 0) sh P) (hM : zr_lay (g + 26) sh P) (x : Int32) : jOne g I0 X S sh P nx kx 3 79 [.int x] := by
  rcases zq_two x 10 (by omega) with q | ⟨p, hp, rfl⟩
  · exact ⟨_, X, S, k_publish_x (d := 998) hG q, m_M_publish_x (d := 998) hM q, h, h0, rfl⟩
  · obtain ⟨a1, a2, a3⟩ := h.publish h0 hp
    refine ⟨_, _, _, k_publish (d := 998) hG h.1.2.1.1 hp, ?_, a2, a3, ?_⟩
    · rw [a1]
      exact m_M_publish (d := 998) hM h.1.1.1 hp
    · unfold zr_publish
      split
      · rfl
      · split
        · rfl
        · exact (by simp only [zq_up, and_self, true_and, and_true, false_and, and_false, if_true, if_false] <;> (repeat (first | rw [if_neg (by omega)] | rw [if_pos (by omega)])))
theorem o_add {g nx kx : Nat} {I0 : zq_I} {X S : (Nat → Nat → Nat)} {sh : zq_S} {P : zq_P} (h : J X S) (h0 : J0 S) (hG : zc_lay g (S 0 0) sh P) (hM : zr_lay (g + 26) sh P) (x : Int32) : jOne g I0 X S sh P nx kx 4 84 [.int x] := by
  have h21 := h.1.2.2.2.1
  have fe := h.few
  rcases zq_two x 10 (by omega) with q | ⟨p, hp, rfl⟩
  · exact ⟨_, X, S, k_add_x (d := 998) hG h.1.2.2.1 h21 q, m_M_add_x (d := 998) hM q, h, h0, rfl⟩
  · obtain ⟨a1, a2, a3, a4⟩ := h.add h0 hp
    refine ⟨_, _, _, k_add (d := 995) hG h.pr h.1.2.2.1 h21 hp a4, ?_, a2, a3, ?_⟩
    · rw [a1]
      exact m_M_add (d := 998) hM h.1.1.1 (by omega) (by omega) hp
    · unfold zr_add
      split
      · rfl
      · split
        · rfl
        · (dsimp only; exact zr_pp_o (a := 0) (j := 0) (by omega))
theorem o_remove {g nx kx : Nat} {I0 : zq_I} {X S : (Nat → Nat → Nat)} {sh : zq_S} {P : zq_P} (h : J X S) (h0 : J0 S) (hG : zc_lay g (S 0 0) sh P) (hM : zr_lay (g + 26) sh P) (x : Int32) : jOne g I0 X S sh P nx kx 5 85 [.int x] := by
  have h21 := h.1.2.2.2.1
  have fe := h.few
  rcases zq_two x 8 (by omega) with q | ⟨p, hp, rfl⟩
  · exact ⟨_, X, S, k_remove_x (d := 998) hG h.1.2.2.1 h21 q, m_M_remove_x (d := 998) hM q, h, h0, rfl⟩
  · obtain ⟨a1, a2, a3, a4⟩ := h.remove h0 hp
    refine ⟨_, _, _, k_remove (d := 996) hG h.pr h.1.2.2.1 h21 hp a4, ?_, a2, a3, ?_⟩
    · rw [a1]
      exact m_M_remove (d := 998) hM h.1.1.1 (by omega) (by omega) hp
    · unfold zr_remove
      split
      · rfl
      · (dsimp only; exact zr_pp_o (a := 0) (j := 0) (by omega))
theorem o_update {g nx kx : Nat} {I0 : zq_I} {X S : (Nat → Nat → Nat)} {sh : zq_S} {P : zq_P} (h : J X S) (h0 : J0 S) (hG : zc_lay g (S 0 0) sh P) (hM : zr_lay (g + 26) sh P) (x : Int32) : jOne g I0 X S sh P nx kx 6 86 [.int x] := by
  have h21 := h.1.2.2.2.1
  have fe := h.few
  rcases zq_two x 10 (by omega) with q | ⟨p, hp, rfl⟩
  · exact ⟨_, X, S, k_update_x (d := 998) hG q, m_M_update_x (d := 998) hM q, h, h0, rfl⟩
  · obtain ⟨a1, a2, a3⟩ := h.update h0 hp
    refine ⟨_, _, _, k_update (d := 997) hG h.pr h.1.2.2.1 h21 hp, ?_, a2, a3, ?_⟩
    · rw [a1]
      exact m_M_update (d := 998) hM h.1.1.1 (by omega) hp
    · unfold zr_update
      split
      · rfl
      · split
        · rfl
        · split
          · rfl
          · (dsimp only; exact (zr_pp_o (a := 0) (j := 0) (by omega)).trans (zq_up_k (by omega)))
theorem o_process {g nx kx : Nat} {I0 : zq_I} {X S : (Nat → Nat → Nat)} {sh : zq_S} {P : zq_P} (h : J X S) (h0 : J0 S) (hG : zc_lay g (S 0 0) sh P) (hM : zr_lay (g + 26) sh P) (x : Int32) : jOne g I0 X S sh P nx kx 8 96 [.int x] := by
  have h21 := h.1.2.2.2.1
  rcases zq_two x 10 (by omega) with q | ⟨p, hp, rfl⟩
  · exact ⟨_, X, S, k_process_x (d := 998) hG q, m_M_process_x (d := 998) hM q, h, h0, rfl⟩
  · obtain ⟨a1, a2, a3⟩ := h.process h0 hp
    have l8 := h.1.1.2.2.1 p
    obtain ⟨p1, p2, p3, p4, p5, p6, p7, p8, p9⟩ := h.2.1 p hp
    refine ⟨_, _, _, k_process (d := 998) hG h.1.2.1.1 h.1.2.2.1 h21 hp (by omega), ?_, a2, a3, ?_⟩
    · rw [a1]
      exact m_M_process (d := 998) hM h.1.1.1 hp (fun z => by have := (p5 z).1; omega) l8
    · unfold zr_process
      split
      · rfl
      · split
        · (dsimp only; exact zq_up_o (by omega))
        · (dsimp only; exact zq_up_o (by omega))
theorem o_leak {g nx kx : Nat} {I0 : zq_I} {X S : (Nat → Nat → Nat)} {sh : zq_S} {P : zq_P} (h : J X S) (h0 : J0 S) (hG : zc_lay g (S 0 0) sh P) (hM : zr_lay (g + 26) sh P) (x : Int32) : jOne g I0 X S sh P nx kx 9 98 [.int x] := by
  have h21 := h.1.2.2.2.1
  have b := h.1.2.2.2.2.2
  rcases zq_two x 10 (by omega) with q | ⟨p, hp, rfl⟩
  · exact ⟨_, X, S, k_leak_x (d := 998) hG q, m_M_leak_x (d := 998) hM q, h, h0, rfl⟩
  · have l8 := h.1.1.2.2.1 p
    obtain ⟨p1, p2, p3, p4, p5, p6, p7, p8, p9⟩ := h.2.1 p hp
    obtain ⟨c1, lg⟩ := k_leak (d := 994) (nx := nx) (kx := kx) (I0 := zi (g + 26) S I0) hG h.1.2.1 h.1.2.2.1 h21 hp (by omega) (fun z => by rw [p2]; exact (p5 (by omega)).1) (fun v hv => by have := (h.held hp).1 v hv; omega) (fun e e1 e2 => ⟨(h.2.2.1.2.1 e e1 e2).2.2.1, (h.2.2.1.2.1 e e1 e2).2.2.2.1⟩)
    obtain ⟨a1, a2, a3⟩ := h.leak h0 hp lg
    refine ⟨_, _, _, c1, ?_, a2, a3, ?_⟩
    · rw [a1]
      exact m_M_leak (d := 997) hM h.1.1 h.lp hp p8 (by omega)
    · unfold zr_leak
      simp only
      split
      · rw [zq_up_o (by decide), zr_lk_o (by decide), zr_gr_o (by decide) (by decide)]
      · rw [zr_lk_o (by decide), zr_gr_o (by decide) (by decide)]
