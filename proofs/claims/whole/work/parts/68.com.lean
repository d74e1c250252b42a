/-! THE TREE UNDER A COMMIT -/
theorem bt_tb {a l : Nat} : (¬ zq_bt a l = 0) ↔ a.testBit l = true := by
  unfold zq_bt
  rw [Nat.testBit_eq_decide_div_mod_eq, decide_eq_true_iff]
  omega
theorem bt_or {a l j : Nat} : (¬ zq_bt (a ||| 2 ^ l) j = 0) ↔ (¬ zq_bt a j = 0 ∨ j = l) := by
  rw [bt_tb, bt_tb, Nat.testBit_or, Bool.or_eq_true, Nat.testBit_two_pow, decide_eq_true_iff]
  constructor
  · rintro (h | h)
    · exact Or.inl h
    · exact Or.inr h.symm
  · rintro (h | h)
    · exact Or.inl h
    · exact Or.inr h.symm
theorem bt_0 {l : Nat} : zq_bt 0 l = 0 := by unfold zq_bt; rw [Nat.zero_div]
theorem wt.leaf {m l v : Nat} {K U K' U' : Nat → Nat} (h : wt m K U) (hl : l < 8) (hv : v ≤ m) (hK : ∀ n, 1 ≤ n → n < 16 → K' n = if n = 8 + l then v else if an n l then 0 else K n) (hU : ∀ n, 1 ≤ n → n < 16 → U' n = if an n l then 0 else U n) : wt m K' U' := by
  obtain ⟨a1, a2, a3, a4, a5⟩ := h
  refine ⟨fun n h1 h2 => ?_, fun l' h' => ?_, fun n l' h1 h2 h3 w => ?_, fun n h1 h2 w => ?_, fun n l' h1 h2 h3 w => ?_⟩
  · rw [hK n h1 h2]
    have := a1 n h1 h2
    split
    · exact hv
    · split
      · omega
      · exact this
  · rw [hU _ (by omega) (by omega), a2 l' h']
    split <;> rfl
  · rw [hU n h1 (by omega)] at w
    by_cases q : an n l
    · rw [if_pos q] at w
      exact absurd bt_0 w
    · rw [if_neg q] at w
      exact a3 n l' h1 h2 h3 w
  · rw [hK n h1 (by omega), if_neg (by omega)] at w
    have q : ¬ an n l := fun q => w (if_pos q)
    rw [if_neg q] at w
    obtain ⟨l1, c1, c2, c3, c4⟩ := a4 n h1 h2 w
    refine ⟨l1, c1, c2, ?_, ?_⟩
    · have ne : l1 ≠ l := fun z => q (z ▸ c2)
      rw [hK _ (by omega) (by omega), if_neg (by omega), if_neg (by omega)]
      exact c3
    · rw [hU n h1 (by omega), if_neg q]
      exact c4
  · rw [hU n h1 (by omega)] at w
    by_cases q : an n l
    · rw [if_pos q] at w
      exact absurd bt_0 w
    · rw [if_neg q] at w
      have ne : l' ≠ l := fun z => q (z ▸ a3 n l' h1 h2 h3 w)
      rw [hK _ (by omega) (by omega), if_neg (by omega), if_neg (by omega)]
      exact a5 n l' h1 h2 h3 w
theorem wt.add {m l v : Nat} {K U K' U' : Nat → Nat} (h : wt m K U) (hl : l < 8) (hv : 1 ≤ v) (hv2 : v ≤ m) (h0 : K (8 + l) = 0) (hK : ∀ n, 1 ≤ n → n < 16 → K' n = if n = 8 + l then v else K n) (hU : ∀ n, 1 ≤ n → n < 16 → U' n = if an n l ∧ ¬ K n = 0 then U n ||| 2 ^ l else U n) : wt m K' U' := by
  obtain ⟨a1, a2, a3, a4, a5⟩ := h
  have bits : ∀ n l', 1 ≤ n → n < 8 → ¬ zq_bt (U' n) l' = 0 → ¬ zq_bt (U n) l' = 0 ∨ (an n l ∧ l' = l) := fun n l' h1 h2 w => by
    rw [hU n h1 (by omega)] at w
    by_cases q : an n l ∧ ¬ K n = 0
    · rw [if_pos q] at w
      rcases bt_or.mp w with z | z
      · exact Or.inl z
      · exact Or.inr ⟨q.1, z⟩
    · rw [if_neg q] at w
      exact Or.inl w
  refine ⟨fun n h1 h2 => ?_, fun l' h' => ?_, fun n l' h1 h2 h3 w => ?_, fun n h1 h2 w => ?_, fun n l' h1 h2 h3 w => ?_⟩
  · rw [hK n h1 h2]
    have := a1 n h1 h2
    split
    · exact hv2
    · exact this
  · rw [hU _ (by omega) (by omega), if_neg (by omega)]
    exact a2 l' h'
  · rcases bits n l' h1 h2 w with z | z
    · exact a3 n l' h1 h2 h3 z
    · rw [z.2]; exact z.1
  · rw [hK n h1 (by omega), if_neg (by omega)] at w
    obtain ⟨l1, c1, c2, c3, c4⟩ := a4 n h1 h2 w
    have ne : l1 ≠ l := fun z => c3 (by rw [z]; exact h0)
    refine ⟨l1, c1, c2, ?_, ?_⟩
    · rw [hK _ (by omega) (by omega), if_neg (by omega)]
      exact c3
    · refine Classical.not_not.mp fun z => ?_
      rcases bits n l1 h1 h2 z with z | z
      · exact z c4
      · exact ne z.2
  · rw [hK _ (by omega) (by omega)]
    rcases bits n l' h1 h2 w with z | z
    · by_cases e : 8 + l' = 8 + l
      · rw [if_pos e]; omega
      · rw [if_neg e]; exact a5 n l' h1 h2 h3 z
    · rw [if_pos (by omega)]; omega
theorem wt.path {m l : Nat} {K U K' U' : Nat → Nat} (h : wt m K U) (hl : l < 8) (hK : ∀ n, 1 ≤ n → n < 16 → K' n = if n = 8 + l then m + 1 else if n = (8 + l) / 2 then m + 2 else if n = (8 + l) / 4 then m + 3 else if n = 1 then m + 4 else K n) (hU : ∀ n, 1 ≤ n → n < 16 → U' n = if n = 8 + l ∨ an n l then 0 else U n) : wt (m + 4) K' U' := by
  obtain ⟨a1, a2, a3, a4, a5⟩ := h
  have lv : ∀ l', l' < 8 → ¬ K (8 + l') = 0 → ¬ K' (8 + l') = 0 := fun l' h' w => by
    rw [hK _ (by omega) (by omega)]
    by_cases e : 8 + l' = 8 + l
    · rw [if_pos e]; omega
    · rw [if_neg e, if_neg (by omega), if_neg (by omega), if_neg (by omega)]; exact w
  refine ⟨fun n h1 h2 => ?_, fun l' h' => ?_, fun n l' h1 h2 h3 w => ?_, fun n h1 h2 w => ?_, fun n l' h1 h2 h3 w => ?_⟩
  · rw [hK n h1 h2]
    have := a1 n h1 h2
    (repeat' split) <;> omega
  · rw [hU _ (by omega) (by omega), a2 l' h']
    split <;> rfl
  · rw [hU n h1 (by omega)] at w
    by_cases q : n = 8 + l ∨ an n l
    · rw [if_pos q] at w
      exact absurd bt_0 w
    · rw [if_neg q] at w
      exact a3 n l' h1 h2 h3 w
  · by_cases q : an n l
    · refine ⟨l, hl, q, ?_, ?_⟩
      · rw [hK _ (by omega) (by omega), if_pos rfl]; omega
      · rw [hU n h1 (by omega), if_pos (Or.inr q)]; exact bt_0
    · rw [hK n h1 (by omega), if_neg (by omega), if_neg (by omega), if_neg (by omega), if_neg (by omega)] at w
      obtain ⟨l1, c1, c2, c3, c4⟩ := a4 n h1 h2 w
      refine ⟨l1, c1, c2, lv l1 c1 c3, ?_⟩
      rw [hU n h1 (by omega), if_neg (by omega)]
      exact c4
  · rw [hU n h1 (by omega)] at w
    by_cases q : n = 8 + l ∨ an n l
    · rw [if_pos q] at w
      exact absurd bt_0 w
    · rw [if_neg q] at w
      exact lv l' h3 (a5 n l' h1 h2 h3 w)
/-! the steps, cell by cell -/
theorem zr_bA_v {S : (Nat → Nat → Nat)} {l : Nat} (hl : l < 8) (a j : Nat) : zr_bA 3 ((8 + l) / 2) S a j = if (a = 1 ∨ a = 2) ∧ (j = 336 + (8 + l) / 2 ∨ j = 336 + (8 + l) / 4 ∨ j = 337) then 0 else S a j := by
  have e1 : (8 + l) / 2 / 2 = (8 + l) / 4 := by omega
  have e2 : (8 + l) / 4 / 2 = 1 := by omega
  rw [zr_bA, if_neg (by omega), zr_bA, if_neg (by omega), zr_bA, if_neg (by omega), zr_bA, e1, e2]
  simp only [zq_up]
  (repeat' split) <;> first | rfl | omega
theorem zc_bA_v {X : (Nat → Nat → Nat)} {l k : Nat} (hl : l < 8) (a j : Nat) : zc_bA (k + 1) 3 ((8 + l) / 2) X a j = if (a = k + 2 ∨ a = k + 3) ∧ (j = (8 + l) / 2 ∨ j = (8 + l) / 4 ∨ j = 1) then 0 else X a j := by
  have e1 : (8 + l) / 2 / 2 = (8 + l) / 4 := by omega
  have e2 : (8 + l) / 4 / 2 = 1 := by omega
  rw [zc_bA, if_neg (by omega), zc_bA, if_neg (by omega), zc_bA, if_neg (by omega), zc_bA, e1, e2]
  simp only [zc_gk, zq_up]
  (repeat' split) <;> first | rfl | omega
theorem mk1_v {S : (Nat → Nat → Nat)} {l n : Nat} (a j : Nat) : (if S 1 (336 + n) = 0 then S else zq_up S 2 (336 + n) (S 2 (336 + n) ||| 2 ^ l)) a j = if a = 2 ∧ j = 336 + n ∧ ¬ S 1 j = 0 then S 2 j ||| 2 ^ l else S a j := by
  by_cases z : S 1 (336 + n) = 0
  · rw [if_pos z, if_neg]
    rintro ⟨-, q, w⟩
    rw [q] at w
    exact w z
  · rw [if_neg z]
    by_cases q : a = 2 ∧ j = 336 + n
    · rw [q.1, q.2, zq_up_s, if_pos ⟨rfl, rfl, z⟩]
    · rw [zq_up, if_neg q, if_neg fun w => q ⟨w.1, w.2.1⟩]
theorem zr_mk_v {S : (Nat → Nat → Nat)} {l : Nat} (hl : l < 8) (a j : Nat) : zr_mk l 3 ((8 + l) / 2) S a j = if a = 2 ∧ (j = 336 + (8 + l) / 2 ∨ j = 336 + (8 + l) / 4 ∨ j = 337) ∧ ¬ S 1 j = 0 then S 2 j ||| 2 ^ l else S a j := by
  have e1 : (8 + l) / 2 / 2 = (8 + l) / 4 := by omega
  have e2 : (8 + l) / 4 / 2 = 1 := by omega
  rw [zr_mk, if_neg (by omega), zr_mk, if_neg (by omega), zr_mk, if_neg (by omega), zr_mk, e1, e2]
  have v1 := mk1_v (S := S) (l := l) (n := (8 + l) / 2)
  generalize (if S 1 (336 + (8 + l) / 2) = 0 then S else zq_up S 2 (336 + (8 + l) / 2) (S 2 (336 + (8 + l) / 2) ||| 2 ^ l)) = T1 at v1 ⊢
  have v2 := mk1_v (S := T1) (l := l) (n := (8 + l) / 4)
  generalize (if T1 1 (336 + (8 + l) / 4) = 0 then T1 else zq_up T1 2 (336 + (8 + l) / 4) (T1 2 (336 + (8 + l) / 4) ||| 2 ^ l)) = T2 at v2 ⊢
  rw [mk1_v]
  have r1 : T1 1 j = S 1 j := by rw [v1, if_neg (by omega)]
  have r2 : T2 1 j = S 1 j := by rw [v2, if_neg (by omega), r1]
  rw [r2, v2, v2, r1, v1, v1]
  by_cases z : S 1 j = 0
  · rw [if_neg (by omega), if_neg (by omega), if_neg (by omega), if_neg (by omega)]
  · by_cases c : a = 2
    · subst c
      (repeat' split) <;> first | rfl | omega
    · rw [if_neg (by omega), if_neg (by omega), if_neg (by omega), if_neg (by omega)]
theorem mc1_v {X : (Nat → Nat → Nat)} {l k n : Nat} (a j : Nat) : (if X (k + 1 + 1) n = 0 then X else zq_up X (k + 1 + 2) n (X (k + 1 + 2) n ||| 2 ^ l)) a j = if a = k + 3 ∧ j = n ∧ ¬ X (k + 2) j = 0 then X (k + 3) j ||| 2 ^ l else X a j := by
  rw [show k + 1 + 1 = k + 2 from rfl, show k + 1 + 2 = k + 3 from rfl]
  by_cases z : X (k + 2) n = 0
  · rw [if_pos z, if_neg]
    rintro ⟨-, q, w⟩
    rw [q] at w
    exact w z
  · rw [if_neg z]
    by_cases q : a = k + 3 ∧ j = n
    · rw [q.1, q.2, zq_up_s, if_pos ⟨rfl, rfl, z⟩]
    · rw [zq_up, if_neg q, if_neg fun w => q ⟨w.1, w.2.1⟩]
theorem zc_mk_v {X : (Nat → Nat → Nat)} {l k : Nat} (hl : l < 8) (a j : Nat) : zc_mk (k + 1) l 3 ((8 + l) / 2) X a j = if a = k + 3 ∧ (j = (8 + l) / 2 ∨ j = (8 + l) / 4 ∨ j = 1) ∧ ¬ X (k + 2) j = 0 then X (k + 3) j ||| 2 ^ l else X a j := by
  have e1 : (8 + l) / 2 / 2 = (8 + l) / 4 := by omega
  have e2 : (8 + l) / 4 / 2 = 1 := by omega
  rw [zc_mk, if_neg (by omega), zc_mk, if_neg (by omega), zc_mk, if_neg (by omega), zc_mk, e1, e2]
  have v1 := mc1_v (X := X) (l := l) (k := k) (n := (8 + l) / 2)
  generalize (if X (k + 1 + 1) ((8 + l) / 2) = 0 then X else zq_up X (k + 1 + 2) ((8 + l) / 2) (X (k + 1 + 2) ((8 + l) / 2) ||| 2 ^ l)) = T1 at v1 ⊢
  have v2 := mc1_v (X := T1) (l := l) (k := k) (n := (8 + l) / 4)
  generalize (if T1 (k + 1 + 1) ((8 + l) / 4) = 0 then T1 else zq_up T1 (k + 1 + 2) ((8 + l) / 4) (T1 (k + 1 + 2) ((8 + l) / 4) ||| 2 ^ l)) = T2 at v2 ⊢
  rw [mc1_v]
  have r1 : T1 (k + 2) j = X (k + 2) j := by rw [v1, if_neg (by omega)]
  have r2 : T2 (k + 2) j = X (k + 2) j := by rw [v2, if_neg (by omega), r1]
  rw [r2, v2, v2, r1, v1, v1]
  by_cases z : X (k + 2) j = 0
  · rw [if_neg (by omega), if_neg (by omega), if_neg (by omega), if_neg (by omega)]
  · by_cases c : a = k + 3
    · subst c
      (repeat' split) <;> first | rfl | omega
    · rw [if_neg (by omega), if_neg (by omega), if_neg (by omega), if_neg (by omega)]
theorem pt1_v {S : (Nat → Nat → Nat)} {b c n v : Nat} (h1 : b ≠ 0) (h2 : c ≠ 0) (h3 : b ≠ c) (w : Nat) (hv : S 0 w + 1 = v) (a j : Nat) : zq_up (zq_up (zq_up S 0 w v) b n v) c n 0 a j = if a = 0 ∧ j = w then v else if a = b ∧ j = n then v else if a = c ∧ j = n then 0 else S a j := by
  unfold zq_up
  by_cases z1 : a = 0
  · subst z1
    rw [if_neg (by omega), if_neg (by omega), if_neg (by omega : ¬ (0 = b ∧ j = n)), if_neg (by omega : ¬ (0 = c ∧ j = n))]
  · by_cases z2 : a = b
    · rw [if_neg (by omega), if_neg (by omega : ¬ (a = 0 ∧ j = w)), if_neg (by omega : ¬ (a = 0 ∧ j = w)), if_neg (by omega : ¬ (a = c ∧ j = n))]
    · by_cases z3 : a = c
      · rw [if_neg (by omega : ¬ (a = 0 ∧ j = w)), if_neg (by omega : ¬ (a = b ∧ j = n)), if_neg (by omega : ¬ (a = 0 ∧ j = w)), if_neg (by omega : ¬ (a = b ∧ j = n))]
      · rw [if_neg (by omega), if_neg (by omega), if_neg (by omega), if_neg (by omega), if_neg (by omega), if_neg (by omega)]
theorem pt4_v {S T1 T2 T3 T4 : (Nat → Nat → Nat)} {b c w n1 n2 n3 n4 : Nat} (h1 : b ≠ 0) (h2 : c ≠ 0) (h3 : b ≠ c) (d1 : n1 ≠ n2) (d2 : n1 ≠ n3) (d3 : n1 ≠ n4) (d4 : n2 ≠ n3) (d5 : n2 ≠ n4) (d6 : n3 ≠ n4)
    (v1 : ∀ a j, T1 a j = if a = 0 ∧ j = w then S 0 w + 1 else if a = b ∧ j = n1 then S 0 w + 1 else if a = c ∧ j = n1 then 0 else S a j)
    (v2 : ∀ a j, T2 a j = if a = 0 ∧ j = w then T1 0 w + 1 else if a = b ∧ j = n2 then T1 0 w + 1 else if a = c ∧ j = n2 then 0 else T1 a j)
    (v3 : ∀ a j, T3 a j = if a = 0 ∧ j = w then T2 0 w + 1 else if a = b ∧ j = n3 then T2 0 w + 1 else if a = c ∧ j = n3 then 0 else T2 a j)
    (v4 : ∀ a j, T4 a j = if a = 0 ∧ j = w then T3 0 w + 1 else if a = b ∧ j = n4 then T3 0 w + 1 else if a = c ∧ j = n4 then 0 else T3 a j) (a j : Nat) :
    T4 a j = if a = 0 ∧ j = w then S 0 w + 4 else if a = b ∧ j = n1 then S 0 w + 1 else if a = b ∧ j = n2 then S 0 w + 2 else if a = b ∧ j = n3 then S 0 w + 3 else if a = b ∧ j = n4 then S 0 w + 4 else if a = c ∧ (j = n1 ∨ j = n2 ∨ j = n3 ∨ j = n4) then 0 else S a j := by
  have e1 : T1 0 w = S 0 w + 1 := by rw [v1, if_pos ⟨rfl, rfl⟩]
  have e2 : T2 0 w = S 0 w + 2 := by rw [v2, if_pos ⟨rfl, rfl⟩, e1]
  have e3 : T3 0 w = S 0 w + 3 := by rw [v3, if_pos ⟨rfl, rfl⟩, e2]
  rw [v4 a j, e3, v3 a j, e2, v2 a j, e1, v1 a j]
  by_cases z1 : a = 0 ∧ j = w
  · rw [if_pos z1, if_pos z1]
  · rw [if_neg z1, if_neg z1, if_neg z1, if_neg z1, if_neg z1]
    by_cases z2 : a = b
    · rw [if_neg (by omega : ¬ (a = c ∧ j = n4)), if_neg (by omega : ¬ (a = c ∧ j = n3)), if_neg (by omega : ¬ (a = c ∧ j = n2)), if_neg (by omega : ¬ (a = c ∧ j = n1)), if_neg (by omega : ¬ (a = c ∧ (j = n1 ∨ j = n2 ∨ j = n3 ∨ j = n4)))]
      by_cases y1 : j = n1
      · rw [if_neg (by omega), if_neg (by omega), if_neg (by omega), if_pos (by omega), if_pos (by omega)]
      · by_cases y2 : j = n2
        · rw [if_neg (by omega), if_neg (by omega), if_pos (by omega), if_neg (by omega), if_pos (by omega)]
        · by_cases y3 : j = n3
          · rw [if_neg (by omega), if_pos (by omega), if_neg (by omega), if_neg (by omega), if_pos (by omega)]
          · by_cases y4 : j = n4
            · rw [if_pos (by omega), if_neg (by omega), if_neg (by omega), if_neg (by omega), if_pos (by omega)]
            · rw [if_neg (by omega), if_neg (by omega), if_neg (by omega), if_neg (by omega), if_neg (by omega), if_neg (by omega), if_neg (by omega), if_neg (by omega)]
    · rw [if_neg (by omega : ¬ (a = b ∧ j = n4)), if_neg (by omega : ¬ (a = b ∧ j = n3)), if_neg (by omega : ¬ (a = b ∧ j = n2)), if_neg (by omega : ¬ (a = b ∧ j = n1)), if_neg (by omega : ¬ (a = b ∧ j = n1)), if_neg (by omega : ¬ (a = b ∧ j = n2)), if_neg (by omega : ¬ (a = b ∧ j = n3)), if_neg (by omega : ¬ (a = b ∧ j = n4))]
      by_cases z3 : a = c ∧ (j = n1 ∨ j = n2 ∨ j = n3 ∨ j = n4)
      · rw [if_pos z3]
        by_cases y4 : j = n4
        · rw [if_pos (by omega)]
        · rw [if_neg (by omega)]
          by_cases y3 : j = n3
          · rw [if_pos (by omega)]
          · rw [if_neg (by omega)]
            by_cases y2 : j = n2
            · rw [if_pos (by omega)]
            · rw [if_neg (by omega), if_pos (by omega)]
      · rw [if_neg z3, if_neg (by omega), if_neg (by omega), if_neg (by omega), if_neg (by omega)]
theorem zr_pth_v {S : (Nat → Nat → Nat)} {l : Nat} (hl : l < 8) (a j : Nat) : zr_pth 4 (8 + l) S a j = if a = 0 ∧ j = 1 then S 0 1 + 4 else if a = 1 ∧ j = 336 + (8 + l) then S 0 1 + 1 else if a = 1 ∧ j = 336 + (8 + l) / 2 then S 0 1 + 2 else if a = 1 ∧ j = 336 + (8 + l) / 4 then S 0 1 + 3 else if a = 1 ∧ j = 337 then S 0 1 + 4 else if a = 2 ∧ (j = 336 + (8 + l) ∨ j = 336 + (8 + l) / 2 ∨ j = 336 + (8 + l) / 4 ∨ j = 337) then 0 else S a j := by
  have e1 : (8 + l) / 2 / 2 = (8 + l) / 4 := by omega
  have e2 : (8 + l) / 4 / 2 = 1 := by omega
  rw [zr_pth, if_neg (by omega), zr_pth, if_neg (by omega), zr_pth, if_neg (by omega), zr_pth, if_neg (by omega), zr_pth, e1, e2]
  exact pt4_v (by omega) (by omega) (by omega) (by omega) (by omega) (by omega) (by omega) (by omega) (by omega) (pt1_v (by omega) (by omega) (by omega) 1 rfl) (pt1_v (by omega) (by omega) (by omega) 1 rfl) (pt1_v (by omega) (by omega) (by omega) 1 rfl) (pt1_v (by omega) (by omega) (by omega) 1 rfl) a j
theorem zc_rp_v {X : (Nat → Nat → Nat)} {l k : Nat} (hl : l < 8) (a j : Nat) : zc_rp k 4 (8 + l) X a j = if a = 0 ∧ j = 9 then X 0 9 + 4 else if a = k + 2 ∧ j = 8 + l then X 0 9 + 1 else if a = k + 2 ∧ j = (8 + l) / 2 then X 0 9 + 2 else if a = k + 2 ∧ j = (8 + l) / 4 then X 0 9 + 3 else if a = k + 2 ∧ j = 1 then X 0 9 + 4 else if a = k + 3 ∧ (j = 8 + l ∨ j = (8 + l) / 2 ∨ j = (8 + l) / 4 ∨ j = 1) then 0 else X a j := by
  have e1 : (8 + l) / 2 / 2 = (8 + l) / 4 := by omega
  have e2 : (8 + l) / 4 / 2 = 1 := by omega
  rw [zc_rp, if_neg (by omega), zc_rp, if_neg (by omega), zc_rp, if_neg (by omega), zc_rp, if_neg (by omega), zc_rp, e1, e2]
  exact pt4_v (by omega) (by omega) (by omega) (by omega) (by omega) (by omega) (by omega) (by omega) (by omega) (pt1_v (by omega) (by omega) (by omega) 9 rfl) (pt1_v (by omega) (by omega) (by omega) 9 rfl) (pt1_v (by omega) (by omega) (by omega) 9 rfl) (pt1_v (by omega) (by omega) (by omega) 9 rfl) a j
theorem zr_cp_v {e : Nat} (he : e ≤ 20) : ∀ (c n : Nat) (S : (Nat → Nat → Nat)) (a j : Nat), n + c ≤ 16 → zr_cp e c n S a j = if (a = 1 ∨ a = 2) ∧ 336 + n ≤ j ∧ j < 336 + n + c then S a (e * 16 + (j - 336)) else S a j
  | 0, n, S, a, j, h => by rw [zr_cp, if_neg (by omega)]
  | c + 1, n, S, a, j, h => by
    rw [zr_cp, zr_cp_v he c (n + 1) _ a j (by omega)]
    by_cases q : (a = 1 ∨ a = 2) ∧ 336 + n ≤ j ∧ j < 336 + n + (c + 1)
    · rw [if_pos q]
      by_cases z : j = 336 + n
      · rw [if_neg (by omega), z, show 336 + n - 336 = n from by omega]
        rcases q.1 with rfl | rfl
        · rw [zq_up_o (by omega), zq_up_s]
        · rw [zq_up_s]
      · rw [if_pos (by omega), zq_up_k (by omega), zq_up_k (by omega)]
    · rw [if_neg q, if_neg (by omega), zq_up, if_neg (by omega), zq_up, if_neg (by omega)]
theorem zr_cb_v {e : Nat} (he : e ≤ 20) : ∀ (c n : Nat) (S : (Nat → Nat → Nat)) (a j : Nat), n + c ≤ 16 → zr_cb e c n S a j = if (a = 1 ∨ a = 2) ∧ e * 16 + n ≤ j ∧ j < e * 16 + n + c then S a (336 + (j - e * 16)) else S a j
  | 0, n, S, a, j, h => by rw [zr_cb, if_neg (by omega)]
  | c + 1, n, S, a, j, h => by
    rw [zr_cb, zr_cb_v he c (n + 1) _ a j (by omega)]
    by_cases q : (a = 1 ∨ a = 2) ∧ e * 16 + n ≤ j ∧ j < e * 16 + n + (c + 1)
    · rw [if_pos q]
      by_cases z : j = e * 16 + n
      · rw [if_neg (by omega), z, show e * 16 + n - e * 16 = n from by omega]
        rcases q.1 with rfl | rfl
        · rw [zq_up_o (by omega), zq_up_s]
        · rw [zq_up_s]
      · rw [if_pos (by omega), zq_up_k (by omega), zq_up_k (by omega)]
    · rw [if_neg q, if_neg (by omega), zq_up, if_neg (by omega), zq_up, if_neg (by omega)]
theorem zc_cp_v {k q : Nat} (hq : q + 2 < k) : ∀ (c n : Nat) (X : (Nat → Nat → Nat)) (a j : Nat), zc_cp k q c n X a j = if (a = k + 1 ∨ a = k + 2) ∧ n ≤ j ∧ j < n + c then X (q + (a - k)) j else X a j
  | 0, n, X, a, j => by rw [zc_cp, if_neg (by omega)]
  | c + 1, n, X, a, j => by
    rw [zc_cp, zc_cp_v hq c (n + 1) _ a j]
    by_cases z : (a = k + 1 ∨ a = k + 2) ∧ n ≤ j ∧ j < n + (c + 1)
    · rw [if_pos z]
      by_cases w : j = n
      · rw [if_neg (by omega), w]
        rcases z.1 with rfl | rfl
        · rw [zq_up_o (by omega), zq_up_s, show k + 1 - k = 1 from by omega]
        · rw [zq_up_s, show k + 2 - k = 2 from by omega]
      · rw [if_pos (by omega), zq_up_k (by omega), zq_up_k (by omega)]
    · rw [if_neg z, if_neg (by omega), zq_up, if_neg (by omega), zq_up, if_neg (by omega)]
