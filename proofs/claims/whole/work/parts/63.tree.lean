/-! HOW MANY MESSAGES: the resolution of a node has at most as many entries as leaves lie below -/
def bw (n l : Nat) : Bool := decide (8 + l = n ∨ an n l)
def b01 (b : Bool) : Nat := if b = true then 1 else 0
theorem zr_ct_b {f : Nat → Bool} {c i : Nat} : zr_ct f (c + 1) i = b01 (f i) + zr_ct f c (i + 1) := rfl
theorem zr_ct_add {f h s : Nat → Bool} : ∀ (c i : Nat), (∀ l, i ≤ l → l < i + c → b01 (s l) = b01 (f l) + b01 (h l)) → zr_ct s c i = zr_ct f c i + zr_ct h c i
  | 0, _, _ => rfl
  | c + 1, i, q => by
    rw [zr_ct_b, zr_ct_b, zr_ct_b, zr_ct_add c (i + 1) (fun l a b => q l (by omega) (by omega)), q i (Nat.le_refl _) (by omega)]
    omega
theorem zr_ct_le2 {f h s : Nat → Bool} : ∀ (c i : Nat), (∀ l, i ≤ l → l < i + c → b01 (f l) + b01 (h l) ≤ b01 (s l)) → zr_ct f c i + zr_ct h c i ≤ zr_ct s c i
  | 0, _, _ => Nat.le_refl _
  | c + 1, i, q => by
    have h1 := zr_ct_le2 c (i + 1) (fun l a b => q l (by omega) (by omega))
    have h2 := q i (Nat.le_refl _) (by omega)
    rw [zr_ct_b, zr_ct_b, zr_ct_b]
    omega
theorem zr_ct_lt2 {f h s : Nat → Bool} {k : Nat} (hk : b01 (f k) + b01 (h k) < b01 (s k)) : ∀ (c i : Nat), i ≤ k → k < i + c → (∀ l, i ≤ l → l < i + c → b01 (f l) + b01 (h l) ≤ b01 (s l)) → zr_ct f c i + zr_ct h c i < zr_ct s c i
  | 0, i, a, b, q => by omega
  | c + 1, i, a, b, q => by
    by_cases e : i = k
    · subst e
      have h1 := zr_ct_le2 c (i + 1) (fun l a b => q l (by omega) (by omega))
      rw [zr_ct_b, zr_ct_b, zr_ct_b]
      omega
    · have h1 := zr_ct_lt2 hk c (i + 1) (by omega) (by omega) (fun l a b => q l (by omega) (by omega))
      have h2 := q i (Nat.le_refl _) (by omega)
      rw [zr_ct_b, zr_ct_b, zr_ct_b]
      omega
theorem bw_sz : ∀ n, n < 16 → 1 ≤ n → zr_ct (bw n) 8 0 = zr_sz n := by decide
theorem bw_two : ∀ n, n < 8 → 1 ≤ n → ∀ l, l < 8 → b01 (bw n l) = b01 (bw (2 * n) l) + b01 (bw (2 * n + 1) l) := by decide
theorem bw_leaf : ∀ l, l < 8 → ∀ k, k < 8 → bw (8 + l) k = decide (k = l) := by decide
/-- the entries of the resolution that are not of the set A of leaves, and the leaves of A below -/
theorem ob_ct {u : Nat} {A ad : Nat → Bool} (ha : ∀ l, l < 8 → ad (8 + l) = A l) : ∀ (c l : Nat), l + c = 8 → ((zr_ob u c l).filter (fun x => !ad x)).length = zr_ct (fun l => !(zq_bt u l == 0) && !A l) c l
  | 0, _, _ => rfl
  | c + 1, l, h => by
    rw [zr_ob, zr_ct]
    by_cases q : zq_bt u l = 0
    · rw [if_pos q, ob_ct ha c (l + 1) (by omega)]
      simp [q]
    · rw [if_neg q, List.filter_cons, ha l (by omega)]
      cases hA : A l
      · simp [q, ob_ct ha c (l + 1) (by omega)]
        omega
      · simp [ob_ct ha c (l + 1) (by omega)]
theorem re_ct {m : Nat} {K U : Nat → Nat} {A ad : Nat → Bool} (hw : wt m K U) (ha : ∀ l, l < 8 → ad (8 + l) = A l) (h0 : ∀ n, n < 8 → ad n = false) (hA : ∀ n l, 1 ≤ n → n < 8 → l < 8 → ¬ K n = 0 → an n l → A l = true → ¬ zq_bt (U n) l = 0) :
    ∀ (c n : Nat), zr_lv n = c → 1 ≤ n → n < 16 → ((zr_re K U n).filter (fun x => !ad x)).length + zr_ct (fun l => A l && bw n l) 8 0 ≤ zr_sz n := by
  intro c
  induction c with
  | zero =>
    intro n hv
    obtain ⟨c, hc⟩ := zr_lv_p n
    omega
  | succ c ih =>
    intro n hv h1 h2
    rw [← bw_sz n h2 h1]
    by_cases h8 : n < 8
    · by_cases k0 : K n = 0
      · obtain ⟨v1, v2⟩ := zr_lv_2 h1 h8
        have i1 := ih (2 * n) (by omega) (by omega) (by omega)
        have i2 := ih (2 * n + 1) (by omega) (by omega) (by omega)
        rw [zr_re_b k0 h1 h8, List.filter_append, List.length_append]
        have e1 : zr_ct (fun l => A l && bw n l) 8 0 = zr_ct (fun l => A l && bw (2 * n) l) 8 0 + zr_ct (fun l => A l && bw (2 * n + 1) l) 8 0 := zr_ct_add _ _ (fun l _ hl => by
          have := bw_two n h8 h1 l (by omega)
          cases A l
          · simp [b01]
          · simpa using this)
        rw [bw_sz n h2 h1, ← zr_sz_b h1 h8, e1]
        omega
      · rw [zr_re_k k0, List.filter_cons, h0 n h8]
        simp only [Bool.not_false, if_true, List.length_cons]
        rw [ob_ct ha 8 0 rfl]
        obtain ⟨l0, l1, l2, l3, l4⟩ := hw.2.2.2.1 n h1 h8 k0
        have key := zr_ct_lt2 (f := fun l => !(zq_bt (U n) l == 0) && !A l) (h := fun l => A l && bw n l) (s := bw n) (k := l0) (by
          have a0 : A l0 = false := by
            cases q : A l0
            · rfl
            · exact absurd l4 (hA n l0 h1 h8 l1 k0 l2 q)
          have b0 : bw n l0 = true := by unfold bw; exact decide_eq_true (Or.inr l2)
          simp [a0, b0, l4, b01]) 8 0 (Nat.zero_le _) (by omega) (fun l _ hl => by
          have hl : l < 8 := by omega
          cases q : A l
          · by_cases z : zq_bt (U n) l = 0
            · simp [z, b01]
            · have b0 : bw n l = true := by unfold bw; exact decide_eq_true (Or.inr (hw.2.2.1 n l h1 h8 hl z))
              simp [z, b0, b01]
          · simp [b01])
        omega
    · obtain ⟨l, rfl⟩ : ∃ l, n = 8 + l := ⟨n - 8, by omega⟩
      have hl : l < 8 := by omega
      have e1 : zr_ct (fun k => A k && bw (8 + l) k) 8 0 = b01 (A l) := by
        have : zr_ct (fun k => A k && bw (8 + l) k) 8 0 = zr_ct (fun k => A k && decide (k = l)) 8 0 := zr_ct_congr _ _ (fun k _ hk => by rw [bw_leaf l hl k (by omega)])
        rw [this]
        have : l = 0 ∨ l = 1 ∨ l = 2 ∨ l = 3 ∨ l = 4 ∨ l = 5 ∨ l = 6 ∨ l = 7 := by omega
        rcases this with rfl | rfl | rfl | rfl | rfl | rfl | rfl | rfl <;> simp [zr_ct, b01]
      have e2 : zr_ct (bw (8 + l)) 8 0 = 1 := by
        rw [bw_sz _ h2 h1]
        unfold zr_sz
        rw [if_pos (by omega)]
      rw [e1, e2]
      by_cases k0 : K (8 + l) = 0
      · rw [zr_re_l k0 (by omega)]
        cases A l <;> simp [b01]
      · rw [zr_re_k k0, hw.2.1 l hl]
        have e3 : zr_ob 0 8 0 = [] := by decide
        rw [e3, List.filter_cons, ha l hl]
        cases A l <;> simp [b01]
theorem re_len {m : Nat} {K U : Nat → Nat} (hw : wt m K U) {n : Nat} (h1 : 1 ≤ n) (h2 : n < 16) : (zr_re K U n).length ≤ 8 := by
  have := re_ct (A := fun _ => false) (ad := fun _ => false) hw (fun _ _ => rfl) (fun _ _ => rfl) (fun _ _ _ _ _ _ _ h => by cases h) _ n rfl h1 h2
  have e : (zr_re K U n).filter (fun x => !(fun _ => false) x) = zr_re K U n := by simp
  rw [e] at this
  have s : zr_sz n ≤ 8 := by
    unfold zr_sz
    (repeat' split) <;> omega
  omega
theorem bw_path : ∀ a, a < 8 → ∀ l, l < 8 → b01 (bw (((8 + a) ^^^ 1)) l) + b01 (bw (((8 + a) / 2) ^^^ 1) l) + b01 (bw (((8 + a) / 4) ^^^ 1) l) + b01 (decide (l = a)) = 1 := by decide
theorem sz_path : ∀ a, a < 8 → zr_sz ((8 + a) ^^^ 1) + zr_sz (((8 + a) / 2) ^^^ 1) + zr_sz (((8 + a) / 4) ^^^ 1) = 7 ∧ 1 ≤ ((8 + a) ^^^ 1) ∧ ((8 + a) ^^^ 1) < 16 ∧ 1 ≤ (((8 + a) / 2) ^^^ 1) ∧ (((8 + a) / 2) ^^^ 1) < 16 ∧ 1 ≤ (((8 + a) / 4) ^^^ 1) ∧ (((8 + a) / 4) ^^^ 1) < 16 := by decide
/-- along the path of the leaf a: with what it sends to the group and the leaves of A, a commit stays within seven -/
theorem path_ct {m a : Nat} {K U : Nat → Nat} {A ad : Nat → Bool} (hw : wt m K U) (ha : ∀ l, l < 8 → ad (8 + l) = A l) (h0 : ∀ n, n < 8 → ad n = false) (hA : ∀ n l, 1 ≤ n → n < 8 → l < 8 → ¬ K n = 0 → an n l → A l = true → ¬ zq_bt (U n) l = 0) (ha8 : a < 8) (hAa : A a = false) :
    ((zr_re K U ((8 + a) ^^^ 1)).filter (fun x => !ad x)).length + ((zr_re K U (((8 + a) / 2) ^^^ 1)).filter (fun x => !ad x)).length + ((zr_re K U (((8 + a) / 4) ^^^ 1)).filter (fun x => !ad x)).length + zr_ct A 8 0 ≤ 7 := by
  obtain ⟨s1, s2, s3, s4, s5, s6, s7⟩ := sz_path a ha8
  have c1 := re_ct hw ha h0 hA _ _ rfl s2 s3
  have c2 := re_ct hw ha h0 hA _ _ rfl s4 s5
  have c3 := re_ct hw ha h0 hA _ _ rfl s6 s7
  have e1 : zr_ct (fun l => A l && (bw ((8 + a) ^^^ 1) l || bw (((8 + a) / 2) ^^^ 1) l)) 8 0 = zr_ct (fun l => A l && bw ((8 + a) ^^^ 1) l) 8 0 + zr_ct (fun l => A l && bw (((8 + a) / 2) ^^^ 1) l) 8 0 := zr_ct_add _ _ (fun l _ hl => by
    have := bw_path a ha8 l (by omega)
    cases A l
    · rfl
    · revert this
      cases bw ((8 + a) ^^^ 1) l <;> cases bw (((8 + a) / 2) ^^^ 1) l <;> simp [b01] <;> omega)
  have e2 : zr_ct A 8 0 = zr_ct (fun l => A l && (bw ((8 + a) ^^^ 1) l || bw (((8 + a) / 2) ^^^ 1) l)) 8 0 + zr_ct (fun l => A l && bw (((8 + a) / 4) ^^^ 1) l) 8 0 := zr_ct_add _ _ (fun l _ hl => by
    have := bw_path a ha8 l (by omega)
    by_cases q : l = a
    · subst q
      rw [hAa]
      rfl
    · cases A l
      · rfl
      · revert this
        cases bw ((8 + a) ^^^ 1) l <;> cases bw (((8 + a) / 2) ^^^ 1) l <;> cases bw (((8 + a) / 4) ^^^ 1) l <;> simp [b01, q] <;> omega)
  omega
