theorem J.bump {X S : (Nat → Nat → Nat)} (h : J X S) (hm : S 0 1 < 120) : J (zq_up X 0 9 (S 0 1 + 1)) (zq_up S 0 1 (S 0 1 + 1)) := by
  obtain ⟨⟨b1, b2, b3, b4, b5, b6⟩, hP, hA, hQ, hL⟩ := h
  have le : S 0 1 ≤ zq_up S 0 1 (S 0 1 + 1) 0 1 := by rw [zq_up_s]; omega
  have xo : ∀ a j, a ≠ 0 → zq_up X 0 9 (S 0 1 + 1) a j = X a j := fun a j q => zq_up_o q
  have so : ∀ a j, a ≠ 0 ∨ j ≠ 1 → zq_up S 0 1 (S 0 1 + 1) a j = S a j := fun a j q => (by simp only [zq_up, and_self, true_and, and_true, false_and, and_false, if_true, if_false] <;> (repeat (first | rw [if_neg (by omega)] | rw [if_pos (by omega)])))
  refine ⟨⟨b1.same (b1.1.up (by omega)) (so _ _ (by omega)) (fun p => by rw [so _ _ (by omega)]; exact b1.2.2.1 p) (fun i => so _ _ (by omega)) (fun i => so _ _ (by omega)), b2.same (b2.1.up (by omega)) (fun a j q => xo _ _ (by omega)), ?_, ?_, ?_, ?_⟩, hP.same (fun _ _ _ _ => xo _ _ (by omega)) (fun k j q => so k j (by omega)) (so _ _ (by omega)) le, hA.same (fun _ _ _ => xo _ _ (by omega)) (fun k j q => so k j (by omega)) (so _ _ (by omega)) (so _ _ (by omega)) le, hQ.same (fun _ _ _ => xo _ _ (by omega)) (fun _ _ => xo _ _ (by omega)) b1.2.2.2.1 (fun k j q => so k j (by omega)) (so _ _ (by omega)) (so _ _ (by omega)) le (fun p hp q r => ⟨by rw [so _ _ (by omega)]; exact q, so _ _ (by omega)⟩) (fun p hp q => by rw [so _ _ (by omega)]; exact q), hL.same (fun _ _ _ => xo _ _ (by omega)) (fun k j q => so k j (by omega)) (so _ _ (by omega)) (so _ _ (by omega)) le⟩
  · rw [zq_up_k (by omega), so _ _ (by omega)]; exact b3
  · rw [so _ _ (by omega)]; exact b4
  · rw [zq_up_s, zq_up_s]
  · rw [zq_up_s]; omega
theorem J.update {X S : (Nat → Nat → Nat)} {p : Nat} (h : J X S) (h0 : J0 S) (hp : p < 10) : (zc_update X (S 0 0) p).1 = (zr_update S p).1 ∧ J (zc_update X (S 0 0) p).2 (zr_update S p).2 ∧ J0 (zr_update S p).2 := by
  have fe := h.few
  have hb := h.1.2.1.1
  have h9 := h.1.2.2.2.2.1
  have h12 := h.1.2.2.2.2.2
  obtain ⟨p1, p2, p3, p4, p5, p6, p7, p8, p9⟩ := h.2.1 p hp
  have hin := zc_in_pl h.2.2.2.1 (q := 0) (w := p) (by omega)
  have hin : zc_in X 16 p ↔ p ∈ zr_pl S 0 := hin
  unfold zc_update zr_update
  have cond : (¬ X (2 + p) 0 = 2 ∨ zc_in X 16 p) ↔ (¬ S 6 p = 2 ∨ ¬ zr_fi S 0 p = none) := by
    rw [p1, hin, zr_fi_none, Classical.not_not]
  by_cases c1 : ¬ S 6 p = 2 ∨ ¬ zr_fi S 0 p = none
  · rw [if_pos (cond.mpr c1), if_pos c1]
    exact ⟨rfl, h, h0⟩
  · rw [if_neg (fun z => c1 (cond.mp z)), if_neg c1]
    have z1 : S 6 p = 2 := Classical.not_not.mp fun z => c1 (Or.inl z)
    have z2 : p ∉ zr_pl S 0 := zr_fi_none.mp (Classical.not_not.mp fun z => c1 (Or.inr z))
    have at0 := (p5 z1).1
    rw [p2, h9]
    by_cases c2 : S 8 p + 1 < S 0 0
    · rw [if_pos c2, if_pos (by omega)]
      exact ⟨rfl, h, h0⟩
    · rw [if_neg c2, if_neg (by omega)]
      by_cases c3 : S 0 1 = 120
      · rw [if_pos c3, if_pos (by omega)]
        exact ⟨rfl, h, h0⟩
      · rw [if_neg c3, if_neg (by omega)]
        have l16 : X 16 1 < 10 := by
          have nd := h.2.2.2.1.2.2.1 0
          have b : ∀ x ∈ p :: zr_pl S 0, x < 10 := fun x hx => by
            rcases List.mem_cons.mp hx with rfl | hx
            · exact hp
            · obtain ⟨i, -, -, e⟩ := zr_pl_mem.mp hx
              rw [← e]; exact h.1.1.2.2.2.1 i
          have := nodup_len 10 _ (List.nodup_cons.mpr ⟨z2, nd⟩) b
          rw [List.length_cons] at this
          omega
        have hT := h.bump (by omega)
        have so : ∀ a j, a ≠ 0 ∨ j ≠ 1 → zq_up S 0 1 (S 0 1 + 1) a j = S a j := fun a j q => (by simp only [zq_up, and_self, true_and, and_true, false_and, and_false, if_true, if_false] <;> (repeat (first | rw [if_neg (by omega)] | rw [if_pos (by omega)])))
        have pl : ∀ k, zr_pl (zq_up S 0 1 (S 0 1 + 1)) k = zr_pl S k := zr_pl_congr (so _ _ (by omega)) (fun i _ => so _ _ (by omega)) (fun i _ => so _ _ (by omega))
        have ls : ∀ q, q ≤ 2 → zc_ls (zq_up X 0 9 (S 0 1 + 1)) (16 + 2 * q) = zc_ls X (16 + 2 * q) := fun q _ => zc_ls_congr (zq_up_o (by omega)) (fun i _ => zq_up_o (by omega))
        have yo : ∀ a j, (a < 2 ∨ 12 ≤ a ∧ a < 16 ∨ 22 ≤ a) → zq_up (zq_up (zc_ap X 16 10 p) 0 9 (S 0 1 + 1)) (2 + p) 4 (S 0 1 + 1) a j = zq_up X 0 9 (S 0 1 + 1) a j := fun a j q => by
          simp only [zq_up]
          rw [if_neg (by omega), zc_ap_o (by omega) (by omega)]
        dsimp only
        refine ⟨rfl, hT.pp (by omega) hp (by omega) (((zc_ap_bd hb (by omega) (by omega)).up (by omega)).up (by omega)) (hT.2.2.2.1.pp (by omega) (by rw [pl]; exact z2) (by rw [so _ _ (by omega)]; omega) (fun q hq => ?_) (fun _ => ?_) (fun q hq => ?_) (by omega) (by omega) hT.1.1.2.2.2.1) (by omega) yo (fun q j hq hj => ?_), h0.same ((zr_pp_o (a := 0) (j := 0) (by omega)).trans (so _ _ (by omega))) (fun z => by omega)⟩
        · rw [ls q hq]
          have : q = 0 ∨ q = 1 ∨ q = 2 := by omega
          rcases this with rfl | rfl | rfl
          · rw [if_pos rfl]
            refine Eq.trans ?_ (zc_ls_ap l16)
            exact zc_ls_congr (by rw [zq_up_o (by omega), zq_up_o (by omega)]) (fun i _ => by rw [zq_up_o (by omega), zq_up_o (by omega)])
          · rw [if_neg (by omega)]
            exact zc_ls_congr (by rw [zq_up_o (by omega), zq_up_o (by omega), zc_ap_o (by omega) (by omega)]) (fun i _ => by rw [zq_up_o (by omega), zq_up_o (by omega), zc_ap_o (by omega) (by omega)])
          · rw [if_neg (by omega)]
            exact zc_ls_congr (by rw [zq_up_o (by omega), zq_up_o (by omega), zc_ap_o (by omega) (by omega)]) (fun i _ => by rw [zq_up_o (by omega), zq_up_o (by omega), zc_ap_o (by omega) (by omega)])
        · rw [so _ _ (by omega), so _ _ (by omega), so _ _ (by omega), zq_up_s, zq_up_s]
          exact ⟨z1, by omega, by omega, by omega, rfl⟩
        · by_cases e : q = p
          · exact Or.inl ⟨rfl, e⟩
          · right
            rw [zq_up_o (by omega), zq_up_o (by omega), zq_up_o (by omega), zc_ap_o (by omega) (by omega)]
        · rw [zq_up_k (by omega), zq_up_o (by omega), zq_up_o (by omega), zc_ap_o (by omega) (by omega)]
theorem J.process {X S : (Nat → Nat → Nat)} {p : Nat} (h : J X S) (h0 : J0 S) (hp : p < 10) : (zc_process X (S 0 0) p).1 = (zr_process S p).1 ∧ J (zc_process X (S 0 0) p).2 (zr_process S p).2 ∧ J0 (zr_process S p).2 := by
  have hh := h
  obtain ⟨⟨b1, b2, b3, b4, b5, b6⟩, hP, hA, hQ, hL⟩ := h
  obtain ⟨p1, p2, p3, p4, p5, p6, p7, p8, p9⟩ := hP p hp
  unfold zc_process zr_process
  rw [p1, p2, p3]
  by_cases c1 : ¬ S 6 p = 2 ∨ S 8 p + 1 = S 0 0
  · rw [if_pos c1, if_pos (by omega)]
    exact ⟨rfl, hh, h0⟩
  · have z1 : S 6 p = 2 := by omega
    obtain ⟨y1, y2⟩ := p5 z1
    rw [if_neg c1, if_neg (by omega)]
    obtain ⟨a1, a2, a3, a4, a5, a6, a7, a8⟩ := hA.2.1 (S 8 p + 1) (by omega) (by omega)
    rw [a1]
    by_cases c2 : zq_bt (S 3 (S 8 p + 1)) (S 9 p) = 0
    · rw [if_neg (by omega), if_neg (by omega)]
      have xo : ∀ a j, a ≠ 2 + p ∨ j ≠ 1 → zq_up X (2 + p) 1 (S 8 p + 1) a j = X a j := fun a j q => (by simp only [zq_up, and_self, true_and, and_true, false_and, and_false, if_true, if_false] <;> (repeat (first | rw [if_neg (by omega)] | rw [if_pos (by omega)])))
      have so : ∀ a j, a ≠ 8 ∨ j ≠ p → zq_up S 8 p (S 8 p + 1) a j = S a j := fun a j q => (by simp only [zq_up, and_self, true_and, and_true, false_and, and_false, if_true, if_false] <;> (repeat (first | rw [if_neg (by omega)] | rw [if_pos (by omega)])))
      dsimp only
      refine ⟨rfl, ⟨⟨b1.up (by omega) (by omega) (by omega) (by omega) (by omega), b2.same (b2.1.up (by omega)) (fun a j q => xo _ _ (by omega)), ?_, ?_, ?_, ?_⟩, fun q hq => ?_, hA.same (fun _ _ _ => xo _ _ (by omega)) (fun k j q => so k j (by omega)) (so _ _ (by omega)) (so _ _ (by omega)) (Nat.le_of_eq (so _ _ (by omega)).symm), hQ.same (fun _ _ _ => xo _ _ (by omega)) (fun _ _ => xo _ _ (by omega)) b1.2.2.2.1 (fun k j q => so k j (by omega)) (so _ _ (by omega)) (so _ _ (by omega)) (Nat.le_of_eq (so _ _ (by omega)).symm) (fun q hq s1 s2 => ?_) (fun q hq s1 => ?_), hL.same (fun _ _ _ => xo _ _ (by omega)) (fun k j q => so k j (by omega)) (so _ _ (by omega)) (so _ _ (by omega)) (Nat.le_of_eq (so _ _ (by omega)).symm)⟩, h0.same (so _ _ (by omega)) (fun z => by omega)⟩
      · rw [xo _ _ (by omega), so _ _ (by omega)]; exact b3
      · rw [so _ _ (by omega)]; exact b4
      · rw [xo _ _ (by omega), so _ _ (by omega)]; exact b5
      · rw [so _ _ (by omega)]; exact b6
      · obtain ⟨d1, d2, d3, d4, d5, d6, d7, d8, d9⟩ := hP q hq
        by_cases e : q = p
        · subst e
          rw [xo _ 0 (by omega), xo _ 2 (by omega), xo _ 3 (by omega), so 6 _ (by omega), so 9 _ (by omega), so 7 _ (by omega), so 0 _ (by omega), so 1 _ (by omega), zq_up_s, zq_up_s, so 0 _ (by omega)]
          refine ⟨d1, rfl, d3, d4, fun _ => ⟨by omega, ?_⟩, d6, d7, by omega, fun z => by omega⟩
          have := a8 (S 9 q) (b1.2.2.1 q)
          rw [show S 8 q + 1 - 1 = S 8 q from rfl] at this
          exact this y2 c2
        · rw [xo _ 0 (by omega), xo _ 1 (by omega), xo _ 2 (by omega), xo _ 3 (by omega), so 6 _ (by omega), so 9 _ (by omega), so 7 _ (by omega), so 8 _ (by omega), so 0 _ (by omega), so 1 _ (by omega), so 0 _ (by omega)]
          exact ⟨d1, d2, d3, d4, d5, d6, d7, d8, d9⟩
      · have e : q ≠ p := fun z => by subst z; omega
        exact ⟨(so _ _ (by omega)).trans s1, so _ _ (by omega)⟩
      · exact (so _ _ (by omega)).trans s1
    · rw [if_pos c2, if_pos c2]
      have xo : ∀ a j, a ≠ 2 + p ∨ j ≠ 0 → zq_up X (2 + p) 0 3 a j = X a j := fun a j q => (by simp only [zq_up, and_self, true_and, and_true, false_and, and_false, if_true, if_false] <;> (repeat (first | rw [if_neg (by omega)] | rw [if_pos (by omega)])))
      have so : ∀ a j, a ≠ 6 ∨ j ≠ p → zq_up S 6 p 3 a j = S a j := fun a j q => (by simp only [zq_up, and_self, true_and, and_true, false_and, and_false, if_true, if_false] <;> (repeat (first | rw [if_neg (by omega)] | rw [if_pos (by omega)])))
      dsimp only
      refine ⟨rfl, ⟨⟨b1.up (by omega) (by omega) (by omega) (by omega) (by omega), b2.same (b2.1.up (by omega)) (fun a j q => xo _ _ (by omega)), ?_, ?_, ?_, ?_⟩, fun q hq => ?_, hA.same (fun _ _ _ => xo _ _ (by omega)) (fun k j q => so k j (by omega)) (so _ _ (by omega)) (so _ _ (by omega)) (Nat.le_of_eq (so _ _ (by omega)).symm), hQ.same (fun _ _ _ => xo _ _ (by omega)) (fun _ _ => xo _ _ (by omega)) b1.2.2.2.1 (fun k j q => so k j (by omega)) (so _ _ (by omega)) (so _ _ (by omega)) (Nat.le_of_eq (so _ _ (by omega)).symm) (fun q hq s1 s2 => ?_) (fun q hq s1 => ?_), hL.same (fun _ _ _ => xo _ _ (by omega)) (fun k j q => so k j (by omega)) (so _ _ (by omega)) (so _ _ (by omega)) (Nat.le_of_eq (so _ _ (by omega)).symm)⟩, h0.same (so _ _ (by omega)) (fun z => by omega)⟩
      · rw [xo _ _ (by omega), so _ _ (by omega)]; exact b3
      · rw [so _ _ (by omega)]; exact b4
      · rw [xo _ _ (by omega), so _ _ (by omega)]; exact b5
      · rw [so _ _ (by omega)]; exact b6
      · obtain ⟨d1, d2, d3, d4, d5, d6, d7, d8, d9⟩ := hP q hq
        by_cases e : q = p
        · subst e
          rw [xo _ 1 (by omega), xo _ 2 (by omega), xo _ 3 (by omega), so 9 _ (by omega), so 7 _ (by omega), so 8 _ (by omega), so 0 _ (by omega), so 1 _ (by omega), zq_up_s, zq_up_s, so 0 _ (by omega)]
          exact ⟨rfl, d2, d3, d4, fun z => by omega, fun z => by omega, d7, d8, d9⟩
        · rw [xo _ 0 (by omega), xo _ 1 (by omega), xo _ 2 (by omega), xo _ 3 (by omega), so 6 _ (by omega), so 9 _ (by omega), so 7 _ (by omega), so 8 _ (by omega), so 0 _ (by omega), so 1 _ (by omega), so 0 _ (by omega)]
          exact ⟨d1, d2, d3, d4, d5, d6, d7, d8, d9⟩
      · have e : q ≠ p := fun z => by subst z; omega
        exact ⟨(so _ _ (by omega)).trans s1, so _ _ (by omega)⟩
      · have e : q ≠ p := fun z => by subst z; omega
        exact (so _ _ (by omega)).trans s1
/-! the asking calls -/
theorem zr_ct_cut {f : Nat → Bool} : ∀ (a b i : Nat), zr_ct f (a + b) i = zr_ct f a i + zr_ct f b (i + a)
  | 0, b, i => by rw [Nat.zero_add, Nat.add_zero]; exact (Nat.zero_add _).symm
  | a + 1, b, i => by
    rw [Nat.succ_add, zr_ct, zr_ct, zr_ct_cut a b (i + 1), show i + 1 + a = i + (a + 1) from by omega]
    omega
theorem zr_ct_z {f : Nat → Bool} : ∀ (c i : Nat), (∀ k, i ≤ k → k < i + c → f k = false) → zr_ct f c i = 0
  | 0, _, _ => rfl
  | c + 1, i, h => by
    rw [zr_ct, zr_ct_z c (i + 1) (fun k a b => h k (by omega) (by omega)), h i (by omega) (by omega)]
    rfl
theorem zr_ct_upto {f : Nat → Bool} {a b i : Nat} (hab : a ≤ b) (h : ∀ k, i + a ≤ k → k < i + b → f k = false) : zr_ct f b i = zr_ct f a i := by
  obtain ⟨c, rfl⟩ : ∃ c, b = a + c := ⟨b - a, by omega⟩
  rw [zr_ct_cut, zr_ct_z c (i + a) (fun k x y => h k x (by omega))]
  rfl
theorem b_iff {a b : Nat} (h : ¬ a = 0 ↔ ¬ b = 0) : (!(a == 0)) = !(b == 0) := by
  by_cases z : a = 0
  · have : b = 0 := Classical.not_not.mp fun w => (h.mpr w) z
    rw [z, this]
  · have w := h.mp z
    rw [beq_false_of_ne z, beq_false_of_ne w]
theorem J.count {X S : (Nat → Nat → Nat)} {j : Nat} (h : J X S) (hj : j < 7) : zc_count X (S 0 0) j = zr_count (zr_gr 150 S) j := by
  have lp := h.lp
  have fe := h.few
  have hh := h
  obtain ⟨⟨b1, b2, b3, b4, b5, b6⟩, hP, hA, hQ, hL⟩ := h
  have o : ∀ k j, k ≠ 15 → k ≠ 16 → zr_gr 150 S k j = S k j := fun k j a b => zr_gr_o a b 150 S
  obtain ⟨e1, e2⟩ := hL.eq lp
  unfold zc_count zr_count
  rw [o 0 0 (by omega) (by omega), o 0 1 (by omega) (by omega), o 0 11 (by omega) (by omega), zr_bl_congr (fun j => o 1 j (by omega) (by omega)), b3, b5, fe.2.2.2.2.2.2.2]
  have a3 : zr_ct (fun p => X (2 + p) 0 == 2) 10 0 = zr_ct (fun p => zr_gr 150 S 6 p == 2) 10 0 := zr_ct_congr _ _ fun k _ hk => by
    rw [o 6 k (by omega) (by omega), (hP k (by omega)).1]
  have a4 : X 13 2 = zr_ct (fun k => !(zr_gr 150 S 15 k == 0)) (S 0 1) 1 := by
    rw [b2.2.1, zr_ct_upto (a := S 0 1) (b := 120) (by omega) (fun k x y => ?_)]
    · exact zr_ct_congr _ _ fun k _ _ => b_iff (e1 k)
    · have : X 14 k = 0 := Classical.not_not.mp fun z => by have := hL.2.2.2.1 k z; omega
      simp [this]
  have a5 : X 13 3 = zr_ct (fun k => !(zr_gr 150 S 16 k == 0)) (S 0 0) 0 := by
    rw [b2.2.2, zr_ct_upto (a := S 0 0) (b := 21) (by omega) (fun k x y => ?_)]
    · exact zr_ct_congr _ _ fun k _ _ => b_iff (e2 k)
    · have : X 15 k = 0 := Classical.not_not.mp fun z => by have := hL.2.2.2.2 k z; omega
      simp [this]
  rw [a3, a4, a5]
  by_cases z : S 0 0 = 0
  · rw [if_pos z, if_pos z]
  · have ul := hh.ul z
    rw [if_neg z, if_neg z, show zc_ul X (45 + 8 * (S 0 0 - 1) + 1) 8 0 = 8 - zr_bl S (S 0 0 - 1) 8 8 from by omega]
