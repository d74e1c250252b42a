/-! AFTER A COMMIT BOTH ARE ALIKE AGAIN -/
theorem zc_ms.loc {X Y : (Nat → Nat → Nat)} {k : Nat} (h : zc_ms X k) (c : ∀ d j, d < 8 → Y (k + d) j = X (k + d) j) : zc_ms Y k := by
  unfold zc_ms
  rw [c 4 1 (by omega), c 6 1 (by omega)]
  exact ⟨h.1, h.2.1, fun i hi => by rw [c 5 i (by omega), c 7 i (by omega)]; exact h.2.2 i hi⟩
theorem zc_pt.loc {X Y : (Nat → Nat → Nat)} {k : Nat} (h : zc_pt X k) (c : ∀ d j, d < 8 → Y (k + d) j = X (k + d) j) : zc_pt Y k := by
  unfold zc_pt
  rw [show Y k 1 = X k 1 from c 0 1 (by omega), c 2 _ (by omega), c 2 _ (by omega), c 2 _ (by omega)]
  exact h
theorem jor.loc {X Y : (Nat → Nat → Nat)} {e pf : Nat} (h : jor X e pf) (c : ∀ d j, d < 8 → Y (45 + 8 * e + d) j = X (45 + 8 * e + d) j) : jor Y e pf := by
  unfold jor
  rw [c 6 1 (by omega), show Y (45 + 8 * e) 1 = X (45 + 8 * e) 1 from c 0 1 (by omega), c 2 _ (by omega), c 2 _ (by omega), c 2 _ (by omega)]
  exact ⟨fun i hi => by rw [c 5 i (by omega), c 7 i (by omega)]; exact h.1 i hi, h.2⟩
theorem jA1.loc {X S Y T : (Nat → Nat → Nat)} {e : Nat} (h : jA1 X S e) (c : ∀ d j, d < 8 → Y (45 + 8 * e + d) j = X (45 + 8 * e + d) j) (hS : ∀ j, j < e * 16 + 16 → T 1 j = S 1 j ∧ T 2 j = S 2 j) (hm : S 0 1 ≤ T 0 1) : jA1 Y T e := by
  refine ⟨fun n h1 h2 => ?_, (h.2.congr (fun n _ h2 => (hS _ (by omega)).1) (fun n _ h2 => (hS _ (by omega)).2)).mono hm⟩
  rw [c 2 n (by omega), c 3 n (by omega), (hS _ (by omega)).1, (hS _ (by omega)).2]
  exact h.1 n h1 h2
theorem jA2.loc {X S Y T : (Nat → Nat → Nat)} {e : Nat} (h : jA2 X S e) (c : ∀ d j, d < 8 → Y (45 + 8 * e + d) j = X (45 + 8 * e + d) j) (hS : ∀ j, j ≤ e → T 3 j = S 3 j ∧ T 4 j = S 4 j ∧ T 5 j = S 5 j) (h1 : ∀ j, j < e * 16 + 16 → T 1 j = S 1 j) (hm : S 0 1 ≤ T 0 1) : jA2 Y T e := by
  obtain ⟨a1, a2, a3, a4, a5, a6, a7, a8⟩ := h
  unfold jA2
  rw [show Y (45 + 8 * e) 4 = X (45 + 8 * e) 4 from c 0 4 (by omega), c 6 1 (by omega), (hS e (by omega)).1, (hS e (by omega)).2.1, (hS e (by omega)).2.2]
  refine ⟨a1, a2, a3.loc c, a4.loc c, a5.loc c, by omega, fun f h1 h2 => ?_, fun l hl => ?_⟩
  · rw [(hS f (by omega)).2.2]
    exact a7 f h1 h2
  · rw [h1 _ (by omega), h1 _ (by omega)]
    exact a8 l hl
set_option maxHeartbeats 1000000 in
theorem J.com {X S X6 X7 S6 W T : (Nat → Nat → Nat)} {p e : Nat} {c8 cmm : List (Nat × Nat)} (h : J X S) (hp : p < 10) (he : e < 20) (h0 : S 0 0 = e + 1) (h1 : S 6 p = 2) (h8 : S 8 p = e) (h116 : S 0 1 ≤ 116) (M : Mid X S p e X6 S6) (G : Msg X S p e X7 S6 c8 cmm) (w : Wv X S p e X7 S6 c8 W) (t : Tv S p e X7 S6 cmm T) :
    jP W T ∧ jA W T ∧ jQ W T ∧ (∀ q, T 9 q < 8) ∧ (∀ hk ht, jcl T hk ht → jle T hk ht → jlx W hk ht) ∧ jle T (fun k => ¬ W 14 k = 0) (fun e => ¬ W 15 e = 0) ∧ (∀ k, ¬ W 14 k = 0 → 1 ≤ k ∧ k ≤ T 0 1) ∧ ∀ f, ¬ W 15 f = 0 → f < T 0 0 := by
  obtain ⟨⟨b1, b2, b3, b4, b5, b6⟩, hP, hA, hQ, hL⟩ := h
  obtain ⟨⟨q1, q2, q3⟩, q4, q5, q6, q7, q8, q9, q10, q11⟩ := hQ
  obtain ⟨-, t2, ct, stay, pe, old, new, bits, own, un, rem, fX, x8, x1, x4, x6, fS⟩ := M
  obtain ⟨K7, U7, w7, ec, mr, ml, -⟩ := G
  obtain ⟨wo, w16, w18, w20, w08, w09, wp, wt7, wk1, wk4, wk41, wk61, wr⟩ := w
  obtain ⟨T00, T01, T011, T015, Tlo, Thi, T345, T3, T4, T5, Tp, T1011, Tm, Tn, T156⟩ := t
  have l8 := b1.2.2.1 p
  have len : cmm.length = c8.length := by rw [ec, List.length_map]
  have nadd : p ∉ zr_pl S 2 := fun z => by
    obtain ⟨i, c1, c2, c3⟩ := zr_pl_mem.mp z
    have := q9 i c1 c2
    rw [c3] at this
    omega
  have leaf : ∀ l, l < 8 → ¬ S6 1 (344 + l) = 0 → ¬ T 1 ((e + 1) * 16 + (8 + l)) = 0 := fun l hl z => by
    rw [(Thi (8 + l) (by omega) (by omega)).1, K7 _ (by omega) (by omega)]
    by_cases y : 8 + l = 8 + S 9 p
    · rw [if_pos y]; omega
    · rw [if_neg y, if_neg (by omega), if_neg (by omega), if_neg (by omega), show 336 + (8 + l) = 344 + l from by omega]
      exact z
  have cell : ∀ f, f < e + 1 → ∀ d j, d < 8 → W (45 + 8 * f + d) j = X (45 + 8 * f + d) j := fun f hf d j hd => wo _ _ (by omega) (by omega) (by omega)
  refine ⟨fun q hq => ?_, ⟨fun f hf => ?_, fun f f1 f2 => ?_, ?_⟩, ?_, fun q => ?_, fun hk ht c1 c2 => ?_, ⟨fun k z => ?_, fun f z => ?_⟩, fun k z => ?_, fun f z => ?_⟩
  · obtain ⟨a1, a2, a3, a4, a5⟩ := wp q hq
    obtain ⟨c6, c7, c8, c9⟩ := Tp q
    obtain ⟨d1, d2, d3, d4, d5, d6, d7, d8, d9⟩ := hP q hq
    rw [a1, a2, a3, a4, c6, c7, c8, c9, T00, T01]
    by_cases z : q ∈ zr_pl S 2
    · obtain ⟨n1, n2, n3, n4⟩ := new q z
      have ne : q ≠ p := fun y => nadd (y ▸ z)
      rw [n1, if_neg ne, n2]
      exact ⟨rfl, rfl, rfl, rfl, fun _ => ⟨by omega, leaf _ n3 n4⟩, fun y => by omega, by omega, by omega, fun y => by omega⟩
    · obtain ⟨n1, n2, n3⟩ := old q z
      rw [n1, n2, n3]
      refine ⟨rfl, rfl, rfl, rfl, fun y => ?_, d6, by omega, ?_, fun y => by omega⟩
      · by_cases ne : q = p
        · rw [if_pos ne, ne]
          exact ⟨by omega, leaf _ l8 own.2⟩
        · rw [if_neg ne]
          obtain ⟨y1, y2⟩ := d5 y
          have b9 := b1.2.2.1 q
          refine ⟨by omega, ?_⟩
          rw [(Tlo _ (by omega)).1]
          exact y2
      · split
        · omega
        · exact d8
  · rw [T00] at hf
    by_cases z : f = e + 1
    · subst z
      refine ⟨fun n n1 n2 => ?_, ?_⟩
      · rw [(wt7 n).1, (wt7 n).2, (Thi n n1 n2).1, (Thi n n1 n2).2]
        exact ⟨rfl, rfl⟩
      · rw [T01]
        exact w7.congr (fun n n1 n2 => (Thi n n1 n2).1) (fun n n1 n2 => (Thi n n1 n2).2)
    · exact (hA.1 f (by omega)).loc (cell f (by omega)) (fun j hj => Tlo j (by omega)) (by omega)
  · rw [T00] at f2
    by_cases z : f = e + 1
    · subst z
      have kk2 : W (45 + 8 * (e + 1) + 2) ((8 + S 9 p) / 2) = S 0 1 + 2 := by rw [(wt7 _).1, K7 _ (by omega) (by omega), if_neg (by omega), if_pos rfl]
      have kk3 : W (45 + 8 * (e + 1) + 2) ((8 + S 9 p) / 4) = S 0 1 + 3 := by rw [(wt7 _).1, K7 _ (by omega) (by omega), if_neg (by omega), if_neg (by omega), if_pos rfl]
      have kk4 : W (45 + 8 * (e + 1) + 2) 1 = S 0 1 + 4 := by rw [(wt7 _).1, K7 _ (by omega) (by omega), if_neg (by omega), if_neg (by omega), if_neg (by omega), if_pos rfl]
      have each : ∀ i, i < c8.length → 1 ≤ W (45 + 8 * (e + 1) + 5) i ∧ W (45 + 8 * (e + 1) + 5) i ≤ S 0 1 ∧ (W (45 + 8 * (e + 1) + 7) i = 0 ∨ S 0 1 + 2 ≤ W (45 + 8 * (e + 1) + 7) i ∧ W (45 + 8 * (e + 1) + 7) i ≤ S 0 1 + 4) := fun i hi => by
        obtain ⟨r1, r2⟩ := wr i _ (List.getElem?_eq_getElem hi)
        rw [r1, r2]
        exact mr _ (List.getElem_mem hi)
      unfold jA2
      rw [wk4, wk61, T3, T4, T5, T01, len]
      refine ⟨rfl, rfl, ⟨?_, ?_, ?_⟩, ⟨?_, ?_, ?_, ?_, ?_, ?_, ?_, ?_⟩, ⟨?_, ?_, ?_, ?_⟩, by omega, fun f g1 g2 => ?_, fun l hl z1 z2 => ?_⟩
      · rw [wk41, wk61]
      · rw [wk61]; omega
      · rw [wk61]
        intro i hi
        have := each i hi
        omega
      · rw [wk1]; omega
      · rw [wk1]; omega
      · rw [wk1, kk2]; omega
      · rw [wk1, kk2]; omega
      · rw [wk1, kk3]; omega
      · rw [wk1, kk3]; omega
      · rw [kk4]; omega
      · rw [kk4]; omega
      · rw [wk61]
        intro i hi
        have := each i hi
        omega
      · rw [wk1]; exact kk2
      · rw [wk1]; exact kk3
      · exact kk4
      · rw [(T345 f (by omega)).2.2]
        have := (hA.2.1 f g1 (by omega)).2.2.2.2.2.1
        omega
      · rw [show e + 1 - 1 = e from rfl, (Tlo _ (by omega)).1] at z1
        exact leaf l hl (stay l hl z1 z2)
    · exact (hA.2.1 f f1 (by omega)).loc (cell f (by omega)) (fun j hj => T345 j (by omega)) (fun j hj => (Tlo j (by omega)).1) (by omega)
  · obtain ⟨g1, g2, g3⟩ := hA.2.2
    unfold jA3
    rw [T00, T015]
    refine ⟨by omega, fun m hm => ?_, fun f i f1 f2 hi => ?_⟩
    · by_cases z : m < S 0 15
      · obtain ⟨f, i, y1, y2, y3, y4⟩ := g2 m z
        refine ⟨f, i, y1, by omega, by rw [cell f (by omega) 6 1 (by omega)]; exact y3, ?_⟩
        unfold jmm
        rw [cell f (by omega) 5 i (by omega), cell f (by omega) 7 i (by omega), (Tm m z).1, (Tm m z).2]
        exact y4
      · obtain ⟨i, rfl⟩ : ∃ i, m = S 0 15 + i := ⟨m - S 0 15, by omega⟩
        have hi : i < c8.length := by omega
        refine ⟨e + 1, i, by omega, by omega, by rw [wk61]; exact hi, ?_⟩
        obtain ⟨r1, r2⟩ := wr i _ (List.getElem?_eq_getElem hi)
        obtain ⟨r3, r4⟩ := Tn i (phi e c8[i]) (by rw [ec, List.getElem?_map, List.getElem?_eq_getElem hi]; rfl)
        unfold jmm
        rw [r1, r2, r3, r4]
        refine ⟨rfl, ?_⟩
        unfold phi
        by_cases y : c8[i].1 = 0
        · exact Or.inl ⟨y, if_pos y⟩
        · exact Or.inr ⟨y, if_neg y⟩
    · by_cases z : f = e + 1
      · subst z
        rw [wk61] at hi
        refine ⟨S 0 15 + i, by omega, ?_⟩
        obtain ⟨r1, r2⟩ := wr i _ (List.getElem?_eq_getElem hi)
        obtain ⟨r3, r4⟩ := Tn i (phi e c8[i]) (by rw [ec, List.getElem?_map, List.getElem?_eq_getElem hi]; rfl)
        unfold jmm
        rw [r1, r2, r3, r4]
        refine ⟨rfl, ?_⟩
        unfold phi
        by_cases y : c8[i].1 = 0
        · exact Or.inl ⟨y, if_pos y⟩
        · exact Or.inr ⟨y, if_neg y⟩
      · rw [cell f (by omega) 6 1 (by omega)] at hi
        obtain ⟨m, y1, y2⟩ := g3 f i f1 (by omega) hi
        refine ⟨m, by omega, ?_⟩
        unfold jmm
        rw [cell f (by omega) 5 i (by omega), cell f (by omega) 7 i (by omega), (Tm m y1).1, (Tm m y1).2]
        exact y2
  · have pn : ∀ k, zr_pl T k = [] := fun k => by
      unfold zr_pl
      rw [T011]
      rfl
    have ls : ∀ q, W q 1 = 0 → zc_ls W q = [] := fun q z => by
      unfold zc_ls
      rw [z]
      rfl
    unfold jQ
    rw [T011, ls 16 w16, ls 18 w18, ls 20 w20]
    simp only [pn]
    exact ⟨⟨trivial, trivial, trivial⟩, fun i hi => by omega, fun k => List.nodup_nil, fun i hi => by omega, fun q hq _ => (wp q hq).2.2.2.2, fun i hi => by omega, fun i hi => by omega, fun _ => trivial, Nat.zero_le _⟩
  · rw [(Tp q).2.2.2]
    by_cases z : q ∈ zr_pl S 2
    · exact (new q z).2.2.1
    · rw [(old q z).2.2]
      exact b1.2.2.1 q
  · have x14 : ∀ k, W 14 k = X 14 k := fun k => wo _ _ (by omega) (by omega) (by omega)
    have x15 : ∀ k, W 15 k = X 15 k := fun k => wo _ _ (by omega) (by omega) (by omega)
    unfold jlx
    simp only [x14, x15]
    refine hL.2.2.1 hk ht ⟨fun m hm => ?_, fun f f1 f2 => ?_⟩ ⟨fun k z => c2.1 k (by rw [(T156 k).1]; exact z), fun f z => c2.2 f (by rw [(T156 f).2]; exact z)⟩
    · have := c1.1 m (by rw [T015]; omega)
      rw [(Tm m hm).1, (Tm m hm).2] at this
      exact this
    · have := c1.2 f f1 (by rw [T00]; omega)
      rw [(T345 f (by omega)).2.2] at this
      exact this
  · rw [(T156 k).1] at z
    show ¬ W 14 k = 0
    rw [wo _ _ (by omega) (by omega) (by omega)]
    exact hL.2.1.1 k z
  · rw [(T156 f).2] at z
    show ¬ W 15 f = 0
    rw [wo _ _ (by omega) (by omega) (by omega)]
    exact hL.2.1.2 f z
  · rw [wo _ _ (by omega) (by omega) (by omega)] at z
    have := hL.2.2.2.1 k z
    omega
  · rw [wo _ _ (by omega) (by omega) (by omega)] at z
    have := hL.2.2.2.2 f z
    omega
/-- a commit on both sides -/
theorem J.commit {X S : (Nat → Nat → Nat)} {p e : Nat} (h : J X S) (hp : p < 10) (he : e < 20) (h0 : S 0 0 = e + 1) (h1 : S 6 p = 2) (h8 : S 8 p = e) (h2 : S 9 p ∉ zr_pl S 1) (h116 : S 0 1 ≤ 116) :
    (∀ m, 1 ≤ m → m < 16 → (zr_re (zc_c7 X e p (45 + 8 * (e + 1) + 2)) (zc_c7 X e p (45 + 8 * (e + 1) + 3)) m).length ≤ 15) ∧ (∀ x, x < 16 → ((8 ≤ x ∧ ¬ zq_bt (zc_c7 X e p (45 + 8 * (e + 1)) 5) (x - 8) = 0) ↔ zr_ad (zr_c3 S p e) x = true)) ∧ (∀ Z, zc_eq (zc_c9 X e p (zr_ad (zr_c3 S p e))) Z → zr_bd Z → zc_lg Z ∧ Z 0 8 = e + 2 ∧ ∀ f, 1 ≤ f → f < e + 2 → zc_ms Z (45 + 8 * f) ∧ zc_pt Z (45 + 8 * f)) ∧ (∀ m, 1 ≤ m → m < 16 → (zr_re (fun x => zr_c3 S p e 1 (336 + x)) (fun x => zr_c3 S p e 2 (336 + x)) m).length ≤ 16) ∧ ∀ Z T, zc_eq (zc_c9 X e p (zr_ad (zr_c3 S p e))) Z → zr_bd Z → zr_eq (zr_commit S p e) T → zr_bd T → J (zc_gl (e + 1) 1 Z) T ∧ T 0 0 = e + 2 := by
  have M := h.mid hp he h0 h1 h8 h2
  obtain ⟨G, o7, k9⟩ := h.msg hp M
  have w : Wv X S p e (zc_c7 X e p) (zr_c3 S p e) (zc_c8 X e p (zr_ad (zr_c3 S p e))) (zc_c9 X e p (zr_ad (zr_c3 S p e))) := h.comW hp M o7 k9 G.2.2.2.2.2.1
  have t : Tv S p e (zc_c7 X e p) (zr_c3 S p e) (zr_cmm S p e) (zr_commit S p e) := h.comT he M G.1 G.2.1
  obtain ⟨jp, ja, jq, t9, jl1, jl2, jl3, jl4⟩ := h.com hp he h0 h1 h8 h116 M G w t
  generalize zc_c9 X e p (zr_ad (zr_c3 S p e)) = W at *
  have T00 := t.1
  have T01 := t.2.1
  have T011 := t.2.2.1
  have T1011 := t.2.2.2.2.2.2.2.2.2.2.2.1
  have W08 := w.2.2.2.2.1
  have W09 := w.2.2.2.2.2.1
  have wo := w.1
  have tw := M.2.1
  have b := h.1
  have lgZ : ∀ Z, zc_eq W Z → zr_bd Z → zc_lg Z := fun Z hZ bZ => b.2.1.same bZ fun a j q => (hZ a j (by omega)).trans (wo a j (by omega) (by omega) (by omega))
  have mpZ : ∀ Z, zc_eq W Z → ∀ f, 1 ≤ f → f < e + 2 → zc_ms Z (45 + 8 * f) ∧ zc_pt Z (45 + 8 * f) := fun Z hZ f f1 f2 => by
    obtain ⟨a1, a2, a3, a4, a5⟩ := ja.2.1 f f1 (by rw [T00]; exact f2)
    exact ⟨a3.loc fun d j _ => hZ _ _ (by omega), a4.loc fun d j _ => hZ _ _ (by omega)⟩
  refine ⟨fun m m1 m2 => Nat.le_trans (re_len G.2.2.1 m1 m2) (by omega), G.2.2.2.2.2.2, fun Z hZ bZ => ⟨lgZ Z hZ bZ, (hZ _ _ (by omega)).trans W08, mpZ Z hZ⟩, fun m m1 m2 => Nat.le_trans (re_len tw m1 m2) (by omega), fun Z T hZ bZ hT bT => ?_⟩
  have o : ∀ k j, k < 17 → T k j = zr_commit S p e k j := fun k j q => hT k j (by omega) (by omega)
  have z : ∀ a j, a < 22 ∨ 26 ≤ a → Z a j = W a j := hZ
  generalize zr_commit S p e = T' at *
  have jaZ : jA Z T := ja.same (fun a j q => z a j (by omega)) (fun k j q => o k j (by omega)) (o _ _ (by omega)) (o _ _ (by omega)) (Nat.le_of_eq (o _ _ (by omega)).symm)
  have t00 : T 0 0 = e + 2 := (o _ _ (by omega)).trans T00
  have t01 : T 0 1 = S 0 1 + 4 := (o _ _ (by omega)).trans T01
  have gl : ∀ a j, 16 ≤ a ∨ a < 13 → zc_gl (e + 1) 1 Z a j = Z a j := fun a j q => zc_gl_o q _ _ _
  have lg2 : zc_lg (zc_gl (e + 1) 1 Z) := zc_lg.gl _ _ _ (lgZ Z hZ bZ) (Nat.le_refl _) (by omega) fun f a b => mpZ Z hZ f a (by omega)
  have jl : jL (zc_gl (T 0 0 - 1) 1 Z) T := jL.told jaZ (fun _ _ _ => rfl) (fun _ _ _ _ => rfl)
    ⟨fun k y => by
      show ¬ Z 14 k = 0
      rw [z 14 k (by omega)]
      exact jl2.1 k (by rw [← o 15 k (by omega)]; exact y), fun f y => by
      show ¬ Z 15 f = 0
      rw [z 15 f (by omega)]
      exact jl2.2 f (by rw [← o 16 f (by omega)]; exact y)⟩
    (fun hk ht c1 c2 => by
      have c1' : jcl T' hk ht := by
        unfold jcl at c1 ⊢
        simp only [o 0 _ (by omega), o 13 _ (by omega), o 14 _ (by omega), o 5 _ (by omega)] at c1
        exact c1
      have c2' : jle T' hk ht := by
        unfold jle at c2 ⊢
        simp only [o 15 _ (by omega), o 16 _ (by omega)] at c2
        exact c2
      have := jl1 hk ht c1' c2'
      unfold jlx at this ⊢
      simp only [z 14 _ (by omega), z 15 _ (by omega)]
      exact this)
    (fun k y => by
      rw [z 14 k (by omega)] at y
      have := jl3 k y
      rw [o 0 1 (by omega)]
      exact this)
    (fun f y => by
      rw [z 15 f (by omega)] at y
      have := jl4 f y
      rw [o 0 0 (by omega)]
      exact this)
  rw [t00] at jl
  have ok : zr_ok T := by
    refine ⟨bT, ?_, fun q => ?_, fun i => ?_, fun i hi => ?_⟩
    · rw [o 0 11 (by omega), T011]; omega
    · rw [o 9 q (by omega)]; exact t9 q
    · rw [o 11 i (by omega), (T1011 i).2]; exact b.1.2.2.2.1 i
    · rw [o 10 i (by omega), (T1011 i).1] at hi
      rw [o 11 i (by omega), (T1011 i).2]; exact b.1.2.2.2.2 i hi
  refine ⟨⟨⟨ok, lg2, ?_, by omega, ?_, by omega⟩, jp.same (fun q j hq _ => (gl _ _ (by omega)).trans (z _ _ (by omega))) (fun k j q => o k j (by omega)) (o _ _ (by omega)) (Nat.le_of_eq (o _ _ (by omega)).symm), jaZ.same (fun a j q => gl a j (by omega)) (fun _ _ _ => rfl) rfl rfl (Nat.le_refl _), jq.same (fun a j q => (gl _ _ (by omega)).trans (z _ _ (by omega))) (fun q hq => (gl _ _ (by omega)).trans (z _ _ (by omega))) (fun i => by rw [(T1011 i).2]; exact b.1.2.2.2.1 i) (fun k j q => o k j (by omega)) (o _ _ (by omega)) (o _ _ (by omega)) (Nat.le_of_eq (o _ _ (by omega)).symm) (fun q hq s1 s2 => ⟨(o _ _ (by omega)).trans s1, o _ _ (by omega)⟩) (fun q hq s1 => (o _ _ (by omega)).trans s1), jl⟩, t00⟩
  · rw [gl _ _ (by omega), z _ _ (by omega), W08, t00]
  · rw [gl _ _ (by omega), z _ _ (by omega), W09, t01]
