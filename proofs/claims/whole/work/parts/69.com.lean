/-! BOTH TREES SIDE BY SIDE -/
def tr (X S : (Nat → Nat → Nat)) (k : Nat) : Prop := ∀ n, 1 ≤ n → n < 16 → X (k + 2) n = S 1 (336 + n) ∧ X (k + 3) n = S 2 (336 + n)
def tw (m : Nat) (S : (Nat → Nat → Nat)) : Prop := wt m (fun n => S 1 (336 + n)) (fun n => S 2 (336 + n))
theorem tr.same {X S Y T : (Nat → Nat → Nat)} {k : Nat} (h : tr X S k) (hX : ∀ j, Y (k + 2) j = X (k + 2) j ∧ Y (k + 3) j = X (k + 3) j) (hS : ∀ j, T 1 j = S 1 j ∧ T 2 j = S 2 j) : tr Y T k := fun n h1 h2 => by
  rw [(hX n).1, (hX n).2, (hS _).1, (hS _).2]
  exact h n h1 h2
theorem tw.same {m : Nat} {S T : (Nat → Nat → Nat)} (h : tw m S) (hS : ∀ j, T 1 j = S 1 j ∧ T 2 j = S 2 j) : tw m T := by
  unfold tw
  simp only [fun j => (hS j).1, fun j => (hS j).2]
  exact h
/-- a leaf gets the key v, or none, and the nodes above are blank -/
theorem tr.leaf {X S : (Nat → Nat → Nat)} {k m l v : Nat} (h : tr X S k) (w : tw m S) (hl : l < 8) (hv : v ≤ m) :
    tr (zc_bA (k + 1) 3 ((8 + l) / 2) (zc_gk X (k + 1) (8 + l) v)) (zr_bA 3 ((8 + l) / 2) (zq_up S 1 (344 + l) v)) k ∧ tw m (zr_bA 3 ((8 + l) / 2) (zq_up S 1 (344 + l) v)) ∧ (∀ l', l' < 8 → zr_bA 3 ((8 + l) / 2) (zq_up S 1 (344 + l) v) 1 (344 + l') = if l' = l then v else S 1 (344 + l')) ∧ (∀ a j, a ≠ k + 2 → a ≠ k + 3 → zc_bA (k + 1) 3 ((8 + l) / 2) (zc_gk X (k + 1) (8 + l) v) a j = X a j) ∧ ∀ a j, a ≠ 1 ∧ a ≠ 2 ∨ j < 336 → zr_bA 3 ((8 + l) / 2) (zq_up S 1 (344 + l) v) a j = S a j := by
  have s1 : ∀ n, 1 ≤ n → n < 16 → zr_bA 3 ((8 + l) / 2) (zq_up S 1 (344 + l) v) 1 (336 + n) = if n = 8 + l then v else if an n l then 0 else S 1 (336 + n) := fun n h1 h2 => by
    rw [zr_bA_v hl]
    by_cases q : an n l
    · rw [if_pos (by omega), if_neg (by omega), if_pos q]
    · rw [if_neg (by omega), if_neg q, zq_up]
      by_cases z : n = 8 + l
      · rw [if_pos (by omega), if_pos z]
      · rw [if_neg (by omega), if_neg z]
  have s2 : ∀ n, 1 ≤ n → n < 16 → zr_bA 3 ((8 + l) / 2) (zq_up S 1 (344 + l) v) 2 (336 + n) = if an n l then 0 else S 2 (336 + n) := fun n h1 h2 => by
    rw [zr_bA_v hl]
    by_cases q : an n l
    · rw [if_pos (by omega), if_pos q]
    · rw [if_neg (by omega), if_neg q, zq_up_o (by omega)]
  have u0 := w.2.1 l hl
  have u0 : S 2 (336 + (8 + l)) = 0 := u0
  refine ⟨fun n h1 h2 => ?_, w.leaf hl hv s1 s2, fun l' h' => ?_, fun a j q1 q2 => ?_, fun a j q => ?_⟩
  · obtain ⟨t1, t2⟩ := h n h1 h2
    constructor
    · rw [s1 n h1 h2, zc_bA_v hl]
      by_cases q : an n l
      · rw [if_pos (by omega), if_neg (by omega), if_pos q]
      · rw [if_neg (by omega), if_neg q]
        unfold zc_gk
        rw [zq_up_o (by omega)]
        by_cases z : n = 8 + l
        · rw [z, show k + 2 = k + 1 + 1 from rfl, zq_up_s, if_pos rfl]
        · rw [zq_up_k z, if_neg z]; exact t1
    · rw [s2 n h1 h2, zc_bA_v hl]
      by_cases q : an n l
      · rw [if_pos (by omega), if_pos q]
      · rw [if_neg (by omega), if_neg q]
        unfold zc_gk
        by_cases z : n = 8 + l
        · rw [z, show k + 3 = k + 1 + 2 from rfl, zq_up_s]; exact u0.symm
        · rw [zq_up_k z, zq_up_k z]; exact t2
  · have := s1 (8 + l') (by omega) (by omega)
    rw [show 336 + (8 + l') = 344 + l' from by omega] at this
    rw [this]
    by_cases z : l' = l
    · rw [if_pos (by omega), if_pos z]
    · rw [if_neg (by omega), if_neg z, if_neg (by omega)]
  · rw [zc_bA_v hl, if_neg (by omega), zc_gk_o (by omega) (by omega)]
  · rw [zr_bA_v hl, if_neg (by omega), zq_up, if_neg (by omega)]
/-- a blank leaf gets the key v, and is unmerged at the nodes above that are not blank -/
theorem tr.add {X S : (Nat → Nat → Nat)} {k m l v : Nat} (h : tr X S k) (w : tw m S) (hl : l < 8) (hv1 : 1 ≤ v) (hv : v ≤ m) (h0 : S 1 (344 + l) = 0) :
    tr (zc_mk (k + 1) l 3 ((8 + l) / 2) (zc_gk X (k + 1) (8 + l) v)) (zr_mk l 3 ((8 + l) / 2) (zq_up S 1 (344 + l) v)) k ∧ tw m (zr_mk l 3 ((8 + l) / 2) (zq_up S 1 (344 + l) v)) ∧ (∀ n, 1 ≤ n → n < 16 → zr_mk l 3 ((8 + l) / 2) (zq_up S 1 (344 + l) v) 1 (336 + n) = if n = 8 + l then v else S 1 (336 + n)) ∧ (∀ n, 1 ≤ n → n < 16 → zr_mk l 3 ((8 + l) / 2) (zq_up S 1 (344 + l) v) 2 (336 + n) = if an n l ∧ ¬ S 1 (336 + n) = 0 then S 2 (336 + n) ||| 2 ^ l else S 2 (336 + n)) ∧ (∀ a j, a ≠ k + 2 → a ≠ k + 3 → zc_mk (k + 1) l 3 ((8 + l) / 2) (zc_gk X (k + 1) (8 + l) v) a j = X a j) ∧ ∀ a j, a ≠ 1 ∧ a ≠ 2 ∨ j < 336 → zr_mk l 3 ((8 + l) / 2) (zq_up S 1 (344 + l) v) a j = S a j := by
  have s1 : ∀ n, 1 ≤ n → n < 16 → zr_mk l 3 ((8 + l) / 2) (zq_up S 1 (344 + l) v) 1 (336 + n) = if n = 8 + l then v else S 1 (336 + n) := fun n h1 h2 => by
    rw [zr_mk_v hl, if_neg (by omega), zq_up]
    by_cases z : n = 8 + l
    · rw [if_pos (by omega), if_pos z]
    · rw [if_neg (by omega), if_neg z]
  have s2 : ∀ n, 1 ≤ n → n < 16 → zr_mk l 3 ((8 + l) / 2) (zq_up S 1 (344 + l) v) 2 (336 + n) = if an n l ∧ ¬ S 1 (336 + n) = 0 then S 2 (336 + n) ||| 2 ^ l else S 2 (336 + n) := fun n h1 h2 => by
    have o2 : zq_up S 1 (344 + l) v 2 (336 + n) = S 2 (336 + n) := zq_up_o (by decide)
    rw [zr_mk_v hl, o2]
    by_cases q : an n l
    · rw [zq_up_k (by omega)]
      by_cases z : S 1 (336 + n) = 0
      · rw [if_neg (by omega), if_neg (by omega)]
      · rw [if_pos (by omega), if_pos ⟨q, z⟩]
    · rw [if_neg (by omega), if_neg fun z => q z.1]
  have u0 := w.2.1 l hl
  have u0 : S 2 (336 + (8 + l)) = 0 := u0
  refine ⟨fun n h1 h2 => ?_, w.add hl hv1 hv ?_ s1 s2, s1, s2, fun a j q1 q2 => ?_, fun a j q => ?_⟩
  · obtain ⟨t1, t2⟩ := h n h1 h2
    have g2 : zc_gk X (k + 1) (8 + l) v (k + 2) n = if n = 8 + l then v else X (k + 2) n := by
      unfold zc_gk
      rw [zq_up_o (by omega)]
      by_cases z : n = 8 + l
      · rw [z, show k + 2 = k + 1 + 1 from rfl, zq_up_s, if_pos rfl]
      · rw [zq_up_k z, if_neg z]
    have g3 : zc_gk X (k + 1) (8 + l) v (k + 3) n = X (k + 3) n := by
      unfold zc_gk
      by_cases z : n = 8 + l
      · rw [z, show k + 3 = k + 1 + 2 from rfl, zq_up_s, ← z]
        rw [z] at t2 ⊢
        exact u0.symm.trans t2.symm
      · rw [zq_up_k z, zq_up_k z]
    constructor
    · rw [s1 n h1 h2, zc_mk_v hl, if_neg (by omega), g2]
      by_cases z : n = 8 + l
      · rw [if_pos z, if_pos z]
      · rw [if_neg z, if_neg z]; exact t1
    · rw [s2 n h1 h2, zc_mk_v hl, g2, g3, t2]
      by_cases q : an n l
      · rw [if_neg (by omega : ¬ n = 8 + l), t1]
        by_cases z : S 1 (336 + n) = 0
        · rw [if_neg (by omega), if_neg (by omega)]
        · rw [if_pos (by omega), if_pos ⟨q, z⟩]
      · rw [if_neg (fun z => q z.2.1), if_neg (fun z => q z.1)]
  · show S 1 (336 + (8 + l)) = 0
    rw [show 336 + (8 + l) = 344 + l from by omega]
    exact h0
  · rw [zc_mk_v hl, if_neg (by omega), zc_gk_o (by omega) (by omega)]
  · rw [zr_mk_v hl, if_neg (by omega), zq_up, if_neg (by omega)]
/-! the least blank leaf -/
theorem zc_lb_s {X : (Nat → Nat → Nat)} {k : Nat} : ∀ (c l : Nat), l + c = 8 → zc_lb X (k + 1) c l ≤ 8 ∧ l ≤ zc_lb X (k + 1) c l ∧ (zc_lb X (k + 1) c l < 8 → X (k + 2) (8 + zc_lb X (k + 1) c l) = 0) ∧ ∀ l', l ≤ l' → l' < zc_lb X (k + 1) c l → ¬ X (k + 2) (8 + l') = 0
  | 0, l, h => by
    rw [zc_lb]
    exact ⟨by omega, by omega, fun z => by omega, fun l' a b => by omega⟩
  | c + 1, l, h => by
    rw [zc_lb, show k + 1 + 1 = k + 2 from rfl]
    by_cases z : X (k + 2) (8 + l) = 0
    · rw [if_pos z]
      exact ⟨by omega, by omega, fun _ => z, fun l' a b => by omega⟩
    · rw [if_neg z]
      obtain ⟨a1, a2, a3, a4⟩ := zc_lb_s (X := X) (k := k) c (l + 1) (by omega)
      refine ⟨a1, by omega, a3, fun l' x y => ?_⟩
      by_cases e : l' = l
      · rw [e]; exact z
      · exact a4 l' (by omega) y
theorem zr_lb_s {X S : (Nat → Nat → Nat)} {k : Nat} (h : tr X S k) : ∀ (c l : Nat), l + c = 7 → zc_lb X (k + 1) (c + 1) l < 8 → zr_lb S c l = zc_lb X (k + 1) (c + 1) l
  | 0, l, hl, z => by
    rw [zr_lb]
    rw [zc_lb, zc_lb] at z ⊢
    by_cases q : X (k + 1 + 1) (8 + l) = 0
    · rw [if_pos q]
    · rw [if_neg q] at z
      omega
  | c + 1, l, hl, z => by
    have t := (h (8 + l) (by omega) (by omega)).1
    rw [show 336 + (8 + l) = 344 + l from by omega] at t
    rw [zc_lb, show k + 1 + 1 = k + 2 from rfl, t] at z ⊢
    rw [zr_lb]
    by_cases q : S 1 (344 + l) = 0
    · rw [if_pos q, if_pos q]
    · rw [if_neg q] at z
      rw [if_neg q, if_neg q]
      exact zr_lb_s h c (l + 1) (by omega) z
theorem zr_bl_ct {S : (Nat → Nat → Nat)} {row : Nat} : ∀ (c l : Nat), zr_bl S row c l = zr_ct (fun l => S 1 (row * 16 + l) == 0) c l
  | 0, _ => rfl
  | c + 1, l => by
    rw [zr_bl, zr_ct, zr_bl_ct c (l + 1)]
    by_cases z : S 1 (row * 16 + l) = 0 <;> simp [z]
theorem lb_sim {X S : (Nat → Nat → Nat)} {k : Nat} (h : tr X S k) (hb : 1 ≤ zr_bl S 21 8 8) : ∃ l, l < 8 ∧ zc_lb X (k + 1) 8 0 = l ∧ zr_lb S 7 0 = l ∧ S 1 (344 + l) = 0 := by
  obtain ⟨a1, a2, a3, a4⟩ := zc_lb_s (X := X) (k := k) 8 0 rfl
  by_cases z : zc_lb X (k + 1) 8 0 < 8
  · refine ⟨_, z, rfl, zr_lb_s h 7 0 rfl z, ?_⟩
    have := (h (8 + zc_lb X (k + 1) 8 0) (by omega) (by omega)).1
    rw [a3 z] at this
    rw [show 344 + zc_lb X (k + 1) 8 0 = 336 + (8 + zc_lb X (k + 1) 8 0) from by omega]
    exact this.symm
  · have e : zr_bl S 21 8 8 = 0 := by
      rw [zr_bl_ct]
      refine zr_ct_z _ _ fun n x y => ?_
      have q := a4 (n - 8) (by omega) (by omega)
      rw [show 8 + (n - 8) = n from by omega, (h n (by omega) (by omega)).1] at q
      show (S 1 (336 + n) == 0) = false
      simp [q]
    omega
/-- one leaf less that is blank, or one more -/
theorem zr_bl_set {S T : (Nat → Nat → Nat)} {l : Nat} (hl : l < 8) (h0 : S 1 (344 + l) = 0) (h1 : ¬ T 1 (344 + l) = 0) (ho : ∀ l', l' < 8 → l' ≠ l → T 1 (344 + l') = S 1 (344 + l')) : zr_bl S 21 8 8 = zr_bl T 21 8 8 + 1 := by
  rw [zr_bl_ct, zr_bl_ct]
  have e : zr_ct (fun l => T 1 (21 * 16 + l) == 0) 8 8 = zr_ct (fun n => if n = 8 + l then false else S 1 (336 + n) == 0) 8 8 := zr_ct_congr _ _ fun n x y => by
    show (T 1 (336 + n) == 0) = _
    by_cases z : n = 8 + l
    · rw [if_pos z, z, show 336 + (8 + l) = 344 + l from by omega]
      simp [h1]
    · rw [if_neg z]
      have := ho (n - 8) (by omega) (by omega)
      rw [show 344 + (n - 8) = 336 + n from by omega] at this
      rw [this]
  rw [e]
  refine zr_ct_set (k := 8 + l) (by simp) ?_ (fun j hj => ?_) 8 8 (by omega) (by omega)
  · show (S 1 (336 + (8 + l)) == 0) = true
    rw [show 336 + (8 + l) = 344 + l from by omega]
    simp [h0]
  · show (S 1 (336 + j) == 0) = _
    simp only [if_neg hj]
/-! the lists of proposals, one after the other -/
def fo (f : Nat → (Nat → Nat → Nat) → (Nat → Nat → Nat)) : Nat → Nat → (Nat → Nat → Nat) → (Nat → Nat → Nat)
  | 0, _, X => X
  | c + 1, i, X => fo f c (i + 1) (f i X)
theorem zc_au_fo {k q : Nat} : ∀ (c i : Nat) (X : (Nat → Nat → Nat)), zc_au k q c i X = fo (fun i X => zc_u1 X k q i) c i X
  | 0, _, _ => rfl
  | c + 1, i, X => by rw [zc_au, fo, zc_au_fo c]
theorem zc_ar_fo {k : Nat} : ∀ (c i : Nat) (X : (Nat → Nat → Nat)), zc_ar k c i X = fo (fun i X => zc_r1 X k i) c i X
  | 0, _, _ => rfl
  | c + 1, i, X => by rw [zc_ar, fo, zc_ar_fo c]
theorem zc_aa_fo {k e : Nat} : ∀ (c i : Nat) (X : (Nat → Nat → Nat)), zc_aa k e c i X = fo (fun i X => zc_a1 X k (X 21 i) e) c i X
  | 0, _, _ => rfl
  | c + 1, i, X => by rw [zc_aa, fo, zc_aa_fo c]
theorem zr_ups_fo {p : Nat} : ∀ (c i : Nat) (S : (Nat → Nat → Nat)), zr_ups p c i S = fo (fun i S => if S 10 i = 0 ∧ ¬ S 11 i = p then zr_bA 3 ((8 + S 9 (S 11 i)) / 2) (zq_up S 1 (344 + S 9 (S 11 i)) (S 12 i)) else S) c i S
  | 0, _, _ => rfl
  | c + 1, i, S => by rw [zr_ups, fo, zr_ups_fo c]
theorem zr_rms_fo {e : Nat} : ∀ (c i : Nat) (S : (Nat → Nat → Nat)), zr_rms e c i S = fo (fun i S => if S 10 i = 1 then zq_up (zr_bA 3 ((8 + S 11 i) / 2) (zq_up S 1 (344 + S 11 i) 0)) 3 e (S 3 e ||| 2 ^ S 11 i) else S) c i S
  | 0, _, _ => rfl
  | c + 1, i, S => by rw [zr_rms, fo, zr_rms_fo c]
theorem zr_ads_fo {e : Nat} : ∀ (c i : Nat) (S : (Nat → Nat → Nat)), zr_ads e c i S = fo (fun i S => if S 10 i = 2 then zr_pa S (S 11 i) e else S) c i S
  | 0, _, _ => rfl
  | c + 1, i, S => by rw [zr_ads, fo, zr_ads_fo c]
theorem fo_sim {R : Nat → (Nat → Nat → Nat) → (Nat → Nat → Nat) → Prop} {f g : Nat → (Nat → Nat → Nat) → (Nat → Nat → Nat)} {kd wh cl : Nat → Nat} {kk n n' : Nat} (skip : ∀ t i X S, R t X S → i < n → ¬ kd i = kk → R t X (g i S)) (step : ∀ t i X S, R t X S → t < n' → i < n → kd i = kk → cl t = wh i → R (t + 1) (f t X) (g i S)) : ∀ (c i c' t : Nat) (X S : (Nat → Nat → Nat)), i + c = n → t + c' = n' → R t X S → ((List.range' i c).filter (fun i => kd i == kk)).map wh = (List.range' t c').map cl → R n' (fo f c' t X) (fo g c i S)
  | 0, i, c', t, X, S, hn, hn', hR, hl => by
    have : c' = 0 := by
      have := congrArg List.length hl
      simp at this
      omega
    subst this
    have : t = n' := by omega
    subst this
    exact hR
  | c + 1, i, c', t, X, S, hn, hn', hR, hl => by
    rw [List.range'_succ, List.filter_cons] at hl
    by_cases q : kd i = kk
    · rw [if_pos (by simp [q]), List.map_cons] at hl
      cases c' with
      | zero => simp at hl
      | succ c' =>
        rw [List.range'_succ, List.map_cons] at hl
        injection hl with h1 h2
        exact fo_sim skip step c (i + 1) c' (t + 1) _ _ (by omega) (by omega) (step t i X S hR (by omega) (by omega) q h1.symm) h2
    · rw [if_neg (by simp [q])] at hl
      exact fo_sim skip step c (i + 1) c' t X (g i S) (by omega) hn' (skip t i X S hR (by omega) q) hl
theorem nodup_inj {f : Nat → Nat} {n i j : Nat} (h : ((List.range n).map f).Nodup) (hi : i < n) (hj : j < n) (e : f i = f j) : i = j := by
  have h : ((List.range n).map f).Pairwise (· ≠ ·) := h
  rw [List.pairwise_map, List.pairwise_iff_getElem] at h
  by_cases z : i < j
  · have := h i j (by simpa using hi) (by simpa using hj) z
    simp at this
    exact absurd e this
  · by_cases z' : j < i
    · have := h j i (by simpa using hj) (by simpa using hi) z'
      simp at this
      exact absurd e.symm this
    · omega
