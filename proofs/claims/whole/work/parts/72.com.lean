/-! THE MESSAGES OF A COMMIT -/
abbrev sb (n x : Nat) : Prop := x = n ∨ x / 2 = n ∨ x / 4 = n ∨ x / 8 = n
theorem rl_sub {K U K' U' : Nat → Nat} : ∀ (c n : Nat), 1 ≤ n → n < 16 → (∀ x, x < 16 → sb n x → K' x = K x ∧ U' x = U x) → zr_rl K' U' c n = zr_rl K U c n
  | 0, _, _, _, _ => rfl
  | c + 1, n, h1, h2, h => by
    obtain ⟨e1, e2⟩ := h n h2 (Or.inl rfl)
    rw [zr_rl, zr_rl, e1, e2]
    by_cases h8 : n < 8
    · rw [rl_sub c (2 * n) (by omega) (by omega) (fun x hx q => h x hx (by omega)), rl_sub c (2 * n + 1) (by omega) (by omega) (fun x hx q => h x hx (by omega))]
    · rw [if_neg h8, if_neg h8]
theorem ob_mem {u x : Nat} : ∀ (c l : Nat), x ∈ zr_ob u c l → ∃ l', x = 8 + l' ∧ l ≤ l' ∧ l' < l + c ∧ ¬ zq_bt u l' = 0
  | 0, _, h => by cases h
  | c + 1, l, h => by
    rw [zr_ob] at h
    by_cases z : zq_bt u l = 0
    · rw [if_pos z] at h
      obtain ⟨l', a, b, d, f⟩ := ob_mem c (l + 1) h
      exact ⟨l', a, by omega, by omega, f⟩
    · rw [if_neg z] at h
      rcases List.mem_cons.mp h with y | y
      · exact ⟨l, y, by omega, by omega, z⟩
      · obtain ⟨l', a, b, d, f⟩ := ob_mem c (l + 1) y
        exact ⟨l', a, by omega, by omega, f⟩
theorem rl_mem {m : Nat} {K U : Nat → Nat} (hw : wt m K U) {x : Nat} : ∀ (c n : Nat), 1 ≤ n → n < 16 → x ∈ zr_rl K U c n → x < 16 ∧ 1 ≤ x ∧ sb n x ∧ ¬ K x = 0
  | 0, _, _, _, h => by cases h
  | c + 1, n, h1, h2, h => by
    rw [zr_rl] at h
    by_cases k0 : K n = 0
    · rw [if_pos k0] at h
      by_cases h8 : n < 8
      · rw [if_pos h8] at h
        rcases List.mem_append.mp h with y | y
        · obtain ⟨a, b, d, f⟩ := rl_mem hw c (2 * n) (by omega) (by omega) y
          exact ⟨a, b, by omega, f⟩
        · obtain ⟨a, b, d, f⟩ := rl_mem hw c (2 * n + 1) (by omega) (by omega) y
          exact ⟨a, b, by omega, f⟩
      · rw [if_neg h8] at h
        cases h
    · rw [if_neg k0] at h
      rcases List.mem_cons.mp h with y | y
      · rw [y]
        exact ⟨h2, h1, Or.inl rfl, k0⟩
      · obtain ⟨l, a, b, d, f⟩ := ob_mem 8 0 y
        by_cases h8 : n < 8
        · have q := hw.2.2.1 n l h1 h8 (by omega) f
          rw [a]
          exact ⟨by omega, by omega, by omega, hw.2.2.2.2 n l h1 h8 (by omega) f⟩
        · have := hw.2.1 (n - 8) (by omega)
          rw [show 8 + (n - 8) = n from by omega] at this
          rw [this] at f
          exact absurd bt_0 f
def sbb (n x : Nat) : Bool := x == n || x / 2 == n || x / 4 == n || x / 8 == n
theorem sbb_iff {n x : Nat} : sbb n x = true ↔ sb n x := by
  unfold sbb
  simp only [Bool.or_eq_true, beq_iff_eq, or_assoc]
def cob (l x : Nat) : Bool := !(sbb ((8 + l) ^^^ 1) x || sbb (((8 + l) / 2) ^^^ 1) x || sbb (((8 + l) / 4) ^^^ 1) x) || !(x == 8 + l || x == (8 + l) / 2 || x == (8 + l) / 4 || x == 1)
theorem cob_t : ∀ l, l < 8 → ∀ x, x < 16 → cob l x = true := by decide
theorem co_sub (l : Nat) (hl : l < 8) (x : Nat) (hx : x < 16) (h : sb ((8 + l) ^^^ 1) x ∨ sb (((8 + l) / 2) ^^^ 1) x ∨ sb (((8 + l) / 4) ^^^ 1) x) : x ≠ 8 + l ∧ x ≠ (8 + l) / 2 ∧ x ≠ (8 + l) / 4 ∧ x ≠ 1 := by
  have c := cob_t l hl x hx
  unfold cob at c
  have a : (sbb ((8 + l) ^^^ 1) x || sbb (((8 + l) / 2) ^^^ 1) x || sbb (((8 + l) / 4) ^^^ 1) x) = true := by
    rcases h with h | h | h
    · rw [sbb_iff.mpr h]; rfl
    · rw [sbb_iff.mpr h, Bool.or_true]; rfl
    · rw [sbb_iff.mpr h, Bool.or_true]
  rw [a] at c
  simp only [Bool.not_true, Bool.false_or, Bool.not_eq_true', Bool.or_eq_false_iff, beq_eq_false_iff_ne, and_assoc] at c
  exact c
theorem lm_eq {K K' : Nat → Nat} {ad : Nat → Bool} {k : Nat} {xs : List Nat} (h : ∀ x ∈ xs, K' x = K x) : zr_lm K' ad k xs = zr_lm K ad k xs := by
  unfold zr_lm
  refine List.map_congr_left fun x hx => ?_
  rw [h x (List.mem_filter.mp hx).1]
theorem lm_mem {K : Nat → Nat} {ad : Nat → Bool} {k : Nat} {xs : List Nat} {r : Nat × Nat} (h : r ∈ zr_lm K ad k xs) : r.1 = k ∧ ∃ x, x ∈ xs ∧ r.2 = K x := by
  unfold zr_lm at h
  obtain ⟨x, h1, h2⟩ := List.mem_map.mp h
  rw [← h2]
  exact ⟨rfl, x, (List.mem_filter.mp h1).1, rfl⟩
theorem lm_len {K : Nat → Nat} {ad : Nat → Bool} {k : Nat} {xs : List Nat} : (zr_lm K ad k xs).length = (xs.filter (fun x => !ad x)).length := by
  unfold zr_lm
  rw [List.length_map]
/-- what the path sends: in the class over the new tree, in the reference over the tree before -/
theorem pm_eq {m l : Nat} {K U K' U' : Nat → Nat} {ad : Nat → Bool} (hw : wt m K U) (hl : l < 8) (hK : ∀ n, 1 ≤ n → n < 16 → K' n = if n = 8 + l then m + 1 else if n = (8 + l) / 2 then m + 2 else if n = (8 + l) / 4 then m + 3 else if n = 1 then m + 4 else K n) (hU : ∀ n, 1 ≤ n → n < 16 → U' n = if n = 8 + l ∨ an n l then 0 else U n) :
    zc_pm K' U' ad 4 (8 + l) = zr_pm K U ad 3 (8 + l) ((8 + l) / 2) m ∧ (∀ r ∈ zr_pm K U ad 3 (8 + l) ((8 + l) / 2) m, 1 ≤ r.2 ∧ r.2 ≤ m ∧ m + 2 ≤ r.1 ∧ r.1 ≤ m + 4) ∧ (zr_pm K U ad 3 (8 + l) ((8 + l) / 2) m).length = ((zr_re K U ((8 + l) ^^^ 1)).filter (fun x => !ad x)).length + ((zr_re K U (((8 + l) / 2) ^^^ 1)).filter (fun x => !ad x)).length + ((zr_re K U (((8 + l) / 4) ^^^ 1)).filter (fun x => !ad x)).length := by
  have e1 : (8 + l) / 2 / 2 = (8 + l) / 4 := by omega
  have e2 : (8 + l) / 4 / 2 = 1 := by omega
  obtain ⟨s1, s2, s3, s4, s5, s6, s7⟩ := sz_path l hl
  have q2 : K' ((8 + l) / 2) = m + 2 := by rw [hK _ (by omega) (by omega), if_neg (by omega), if_pos rfl]
  have q3 : K' ((8 + l) / 4) = m + 3 := by rw [hK _ (by omega) (by omega), if_neg (by omega), if_neg (by omega), if_pos rfl]
  have q4 : K' 1 = m + 4 := by rw [hK _ (by omega) (by omega), if_neg (by omega), if_neg (by omega), if_neg (by omega), if_pos rfl]
  have same : ∀ x, 1 ≤ x → x < 16 → (sb ((8 + l) ^^^ 1) x ∨ sb (((8 + l) / 2) ^^^ 1) x ∨ sb (((8 + l) / 4) ^^^ 1) x) → K' x = K x ∧ U' x = U x := fun x h1 h2 h => by
    obtain ⟨a, b, c, d⟩ := co_sub l hl x h2 h
    rw [hK x h1 h2, hU x h1 h2, if_neg a, if_neg b, if_neg c, if_neg d, if_neg (by omega)]
    exact ⟨rfl, rfl⟩
  have one : ∀ n, 1 ≤ n → n < 16 → (∀ x, sb n x → (sb ((8 + l) ^^^ 1) x ∨ sb (((8 + l) / 2) ^^^ 1) x ∨ sb (((8 + l) / 4) ^^^ 1) x)) → ∀ v, zr_lm K' ad v (zr_re K' U' n) = zr_lm K ad v (zr_re K U n) := fun n h1 h2 h v => by
    have e : zr_re K' U' n = zr_re K U n := rl_sub _ n h1 h2 fun x hx q => same x (by unfold sb at q; omega) hx (h x q)
    rw [e]
    exact lm_eq fun x hx => by
      obtain ⟨a, b, c, d⟩ := rl_mem hw _ n h1 h2 hx
      exact (same x b a (h x c)).1
  have big : ∀ n, 1 ≤ n → n < 16 → ∀ v r, r ∈ zr_lm K ad v (zr_re K U n) → 1 ≤ r.2 ∧ r.2 ≤ m ∧ r.1 = v := fun n h1 h2 v r hr => by
    obtain ⟨a, x, hx, b⟩ := lm_mem hr
    obtain ⟨c1, c2, c3, c4⟩ := rl_mem hw _ n h1 h2 hx
    have := hw.1 x c2 c1
    exact ⟨by omega, by omega, a⟩
  have er : zr_pm K U ad 3 (8 + l) ((8 + l) / 2) m = zr_lm K ad (m + 2) (zr_re K U ((8 + l) ^^^ 1)) ++ (zr_lm K ad (m + 3) (zr_re K U (((8 + l) / 2) ^^^ 1)) ++ (zr_lm K ad (m + 4) (zr_re K U (((8 + l) / 4) ^^^ 1)) ++ [])) := by
    rw [zr_pm, if_neg (by omega), zr_pm, if_neg (by omega), zr_pm, if_neg (by omega), zr_pm, e1]
  have ec : zc_pm K' U' ad 4 (8 + l) = zr_lm K' ad (m + 2) (zr_re K' U' ((8 + l) ^^^ 1)) ++ (zr_lm K' ad (m + 3) (zr_re K' U' (((8 + l) / 2) ^^^ 1)) ++ (zr_lm K' ad (m + 4) (zr_re K' U' (((8 + l) / 4) ^^^ 1)) ++ [])) := by
    rw [zc_pm, if_neg (by omega), zc_pm, if_neg (by omega), zc_pm, if_neg (by omega), zc_pm, e1, e2, if_pos (by omega), q2, q3, q4]
  refine ⟨?_, fun r hr => ?_, ?_⟩
  · rw [er, ec, one _ s2 s3 (fun x q => Or.inl q), one _ s4 s5 (fun x q => Or.inr (Or.inl q)), one _ s6 s7 (fun x q => Or.inr (Or.inr q))]
  · rw [er] at hr
    rcases List.mem_append.mp hr with y | y
    · have := big _ s2 s3 _ r y
      omega
    · rcases List.mem_append.mp y with y | y
      · have := big _ s4 s5 _ r y
        omega
      · rw [List.append_nil] at y
        have := big _ s6 s7 _ r y
        omega
  · rw [er, List.length_append, List.length_append, List.length_append, lm_len, lm_len, lm_len]
    simp only [List.length_nil]
    omega
/-! the welcomes -/
theorem we_fm {jn st pu K : Nat → Nat} {cn : Nat} : ∀ (c i : Nat), zc_we jn st pu K cn c i = ((List.range' i c).map jn).flatMap fun q => [(K (zc_lp 2 (cn / 2) ((8 + st q) / 2)), pu q), (0, pu q)]
  | 0, _ => rfl
  | c + 1, i => by
    rw [zc_we, we_fm c (i + 1), List.range'_succ, List.map_cons, List.flatMap_cons]
    rfl
theorem wel_fm {kd wh lf ow : Nat → Nat} {km mine e : Nat} : ∀ (c i : Nat), zr_wel kd wh lf ow km mine e c i = (((List.range' i c).filter (fun i => kd i == 2)).map wh).flatMap fun q => [(km + 1 + zr_me mine (8 + lf q) 3 1, ow q), (1000 + e, ow q)]
  | 0, _ => rfl
  | c + 1, i => by
    rw [zr_wel, wel_fm c (i + 1), List.range'_succ, List.filter_cons]
    by_cases z : kd i = 2
    · rw [if_pos z, if_pos (by simp [z]), List.map_cons, List.flatMap_cons]
    · rw [if_neg z, if_neg (by simp [z]), List.nil_append]
theorem lp_me : ∀ a, a < 8 → ∀ b, b < 8 → zc_lp 2 ((8 + a) / 2) ((8 + b) / 2) = (8 + a) / 2 ^ zr_me (8 + a) (8 + b) 3 1 ∧ 1 ≤ zr_me (8 + a) (8 + b) 3 1 ∧ zr_me (8 + a) (8 + b) 3 1 ≤ 3 := by decide
theorem fm_map {α : Type} {f g : Nat → List α} {φ : α → α} : ∀ (xs : List Nat), (∀ x ∈ xs, g x = (f x).map φ) → xs.flatMap g = (xs.flatMap f).map φ
  | [], _ => rfl
  | x :: xs, h => by
    rw [List.flatMap_cons, List.flatMap_cons, List.map_append, h x List.mem_cons_self, fm_map xs fun y hy => h y (List.mem_cons_of_mem _ hy)]
theorem fm_len {α : Type} {f : Nat → List α} : ∀ (xs : List Nat), (∀ x, (f x).length = 2) → (xs.flatMap f).length = 2 * xs.length
  | [], _ => rfl
  | x :: xs, h => by
    rw [List.flatMap_cons, List.length_append, h x, fm_len xs h, List.length_cons]
    omega
