theorem zr_lay.kp {g n : Nat} {sh sh' : zq_S} {P P' : zq_P} (h : zr_lay (g + 26) sh P) (k : zc_kp g n sh P sh' P') (hn : g + 45 ≤ n) : zr_lay (g + 26) sh' P' := by
  have s0 : sh' (g + 26) = sh (g + 26) := k.1 _ (by omega)
  have s : ∀ j, j < 19 → sh' (g + 26 + j) = sh (g + 26 + j) := fun j hj => k.1 _ (by omega)
  have p : ∀ j, P' (g + 26) j = P (g + 26) j := fun j => k.2 _ j (by omega) (by omega)
  unfold zr_lay
  rw [s0, s 1 (by omega), s 2 (by omega), s 3 (by omega), s 4 (by omega), s 5 (by omega), s 6 (by omega), s 7 (by omega), s 8 (by omega), s 9 (by omega), s 10 (by omega), s 11 (by omega), s 12 (by omega), s 13 (by omega), s 14 (by omega), s 15 (by omega), s 16 (by omega), s 17 (by omega), s 18 (by omega), p, p, p, p, p, p, p, p, p, p, p, p, p, p, p, p, p, p]
  exact h
def jW (g c0 : Nat) (I0 : zq_I) (sh0 : zq_S) (sh : zq_S) (I : zq_I) (P : zq_P) (nx kx : Nat) : Prop := ∃ X S, I = zx g X (zi (g + 26) S I0) ∧ J X S ∧ J0 S ∧ zc_lay g (S 0 0) sh P ∧ zr_lay (g + 26) sh P ∧ nx = g + (45 + 8 * S 0 0) ∧ kx = c0 + 76 * S 0 0 ∧ ∀ a, a < g → sh a = sh0 a
def jS (g c0 : Nat) (I0 : zq_I) (sh0 : zq_S) (mG mM : Nat) (args : List Value) : Prop := ∀ sh I P nx kx, jW g c0 I0 sh0 sh I P nx kx → ∃ v sh1 I1 P1 nx1 kx1 sh2 I2 P2 nx2 kx2, zq_C 999 mG (.ref g :: args) sh I P nx kx = some (some (.int v), sh1, I1, P1, nx1, kx1) ∧ zq_C 999 mM (.ref (g + 26) :: args) sh1 I1 P1 nx1 kx1 = some (some (.int v), sh2, I2, P2, nx2, kx2) ∧ jW g c0 I0 sh0 sh2 I2 P2 nx2 kx2 ∧ (sh1 (g + 26)).1 = 106 ∧ (∀ a, a < g → sh1 a = sh0 a) ∧ ∀ b j, b < g → I1 b j = I0 b j
theorem zz_lo {g b j : Nat} {X S : (Nat → Nat → Nat)} {I0 : zq_I} (h : b < g) : zx g X (zi (g + 26) S I0) b j = I0 b j := by
  unfold zx
  rw [if_neg (by omega)]
  unfold zi
  rw [if_neg (by omega)]
theorem jOne.go {g c0 nx kx mG mM : Nat} {I0 : zq_I} {sh0 sh : zq_S} {P : zq_P} {X S : (Nat → Nat → Nat)} {args : List Value} (hG : zc_lay g (S 0 0) sh P) (hM : zr_lay (g + 26) sh P) (hs : ∀ a, a < g → sh a = sh0 a) (hn : nx = g + (45 + 8 * S 0 0)) (hk : kx = c0 + 76 * S 0 0) (o : jOne g I0 X S sh P nx kx mG mM args) : ∃ v sh1 I1 P1 nx1 kx1 sh2 I2 P2 nx2 kx2, zq_C 999 mG (.ref g :: args) sh (zx g X (zi (g + 26) S I0)) P nx kx = some (some (.int v), sh1, I1, P1, nx1, kx1) ∧ zq_C 999 mM (.ref (g + 26) :: args) sh1 I1 P1 nx1 kx1 = some (some (.int v), sh2, I2, P2, nx2, kx2) ∧ jW g c0 I0 sh0 sh2 I2 P2 nx2 kx2 ∧ (sh1 (g + 26)).1 = 106 ∧ (∀ a, a < g → sh1 a = sh0 a) ∧ ∀ b j, b < g → I1 b j = I0 b j := by
  obtain ⟨v, X', S', a1, a2, a3, a4, a5⟩ := o
  rw [← zz_comm] at a2
  refine ⟨v, _, _, _, _, _, _, _, _, _, _, a1, a2, ⟨X', S', zz_comm.symm, a3, a4, ?_, hM, ?_, ?_, hs⟩, hM.1, hs, fun b j hb => zz_lo hb⟩
  · rw [a5]; exact hG
  · rw [a5]; exact hn
  · rw [a5]; exact hk
theorem jS.of {g c0 mG mM : Nat} {I0 : zq_I} {sh0 : zq_S} {args : List Value} (H : ∀ (X S : (Nat → Nat → Nat)) (sh : zq_S) (P : zq_P) (nx kx : Nat), J X S → J0 S → zc_lay g (S 0 0) sh P → zr_lay (g + 26) sh P → jOne g I0 X S sh P nx kx mG mM args) : jS g c0 I0 sh0 mG mM args := by
  rintro sh I P nx kx ⟨X, S, rfl, h, h0, hG, hM, hn, hk, hs⟩
  exact jOne.go hG hM hs hn hk (H X S sh P nx kx h h0 hG hM)
theorem s_found {g c0 : Nat} {I0 : zq_I} {sh0 : zq_S} (x : Int32) : jS g c0 I0 sh0 2 78 [.int x] := by
  rintro sh I P nx kx ⟨X, S, rfl, h, h0, hG, hM, hn, hk, hs⟩
  rcases zq_two x 10 (by omega) with q | ⟨p, hp, rfl⟩
  · exact jOne.go hG hM hs hn hk ⟨_, X, S, k_found_x (d := 998) hG q, m_M_found_x (d := 998) hM q, h, h0, rfl⟩
  · have p1 := (h.2.1 p hp).1
    have h8 := h.1.2.2.1
    by_cases z : S 0 0 = 0 ∧ ¬ S 6 p = 1
    · obtain ⟨a1, a2, a3, a4⟩ := h.found h0 hp z.1 z.2
      rw [z.1] at hG hn hk
      have kp := zc_n2_kp (g := g) (ne := 0) (sh := sh) (P := P)
      have hM' := hM.kp kp (by omega)
      have rf := m_M_found (d := 998) (nx := g + 53) (kx := kx + 76) (I0 := zx g (zc_found X p) I0) hM' h.1.1.1 hp
      rw [← zz_comm, a1] at rf
      subst hn
      have kf := k_found (d := 996) (kx := kx) (I0 := zi (g + 26) S I0) hG h.1.2.1.1 (h8.trans z.1) hp (by rw [p1]; exact z.2)
      rw [h.1.2.2.2.2.1] at kf
      refine ⟨_, _, _, _, _, _, _, _, _, _, _, kf, rf, ⟨zc_found X p, (zr_found S p).2, zz_comm.symm, a2, a3, ?_, hM', ?_, ?_, fun a ha => ?_⟩, hM'.1, fun a ha => ?_, fun b j hb => zz_lo hb⟩
      · rw [a4]
        exact zc_n2_lay hG
      · rw [a4]
      · rw [a4, hk]
      · rw [← hs a ha]
        exact kp.1 a (by omega)
      · rw [← hs a ha]
        exact kp.1 a (by omega)
    · refine jOne.go hG hM hs hn hk ⟨_, X, S, k_found_no (d := 998) hG h.1.2.1.1 h8 hp ?_, ?_, h, h0, rfl⟩
      · by_cases y : S 0 0 = 0
        · right
          rw [p1]
          exact Classical.not_not.mp fun w => z ⟨y, w⟩
        · exact Or.inl y
      · have e : zr_found S p = (-1, S) := by
          unfold zr_found
          rw [if_neg z]
        have rf := m_M_found (d := 998) (nx := nx) (kx := kx) (I0 := zx g X I0) hM h.1.1.1 hp
        rw [e] at rf
        exact rf
theorem s_commit {g c0 : Nat} {I0 : zq_I} {sh0 : zq_S} (x : Int32) : jS g c0 I0 sh0 7 95 [.int x] := by
  rintro sh I P nx kx ⟨X, S, rfl, h, h0, hG, hM, hn, hk, hs⟩
  have h8 := h.1.2.2.1
  have h21 := h.1.2.2.2.1
  have h9 := h.1.2.2.2.2.1
  rcases zq_two x 10 (by omega) with q | ⟨p, hp, rfl⟩
  · exact jOne.go hG hM hs hn hk ⟨_, X, S, k_commit_x (d := 998) hG h8 h21 q, m_M_commit_x (d := 998) hM q, h, h0, rfl⟩
  · obtain ⟨p1, p2, p3, p4, p5, p6, p7, p8, p9⟩ := h.2.1 p hp
    have hin := zc_in_pl h.2.2.2.1 (q := 1) (w := S 9 p) (by omega)
    have hin : zc_in X 18 (S 9 p) ↔ S 9 p ∈ zr_pl S 1 := hin
    by_cases c1 : ¬ S 6 p = 2 ∨ S 9 p ∈ zr_pl S 1
    · refine jOne.go hG hM hs hn hk ⟨_, X, S, k_commit_no (d := 998) hG h.pr h8 h21 hp ?_, m_M_commit_no (d := 998) hM h.1.1 hp ?_, h, h0, rfl⟩
      · rw [p1, p3, hin]
        exact Or.inr c1
      · rw [zr_fi_none, Classical.not_not]
        exact c1
    · have s6 : S 6 p = 2 := Classical.not_not.mp fun z => c1 (Or.inl z)
      have s9 : S 9 p ∉ zr_pl S 1 := fun z => c1 (Or.inr z)
      have at0 := (p5 s6).1
      obtain ⟨e, he⟩ : ∃ e, S 0 0 = e + 1 := ⟨S 0 0 - 1, by omega⟩
      have hG' := hG
      rw [he] at hG'
      have x18 : ¬ zc_in X 18 (X (2 + p) 2) := by rw [p3, hin]; exact s9
      by_cases c2 : S 8 p = e
      · by_cases c3 : 20 ≤ e ∨ 116 < S 0 1
        · exact jOne.go hG hM hs hn hk ⟨_, X, S, k_commit_fu (d := 998) hG' h.pr (h8.trans he) (by omega) hp (by omega) x18 (by omega) (by omega), m_M_commit_fu (d := 998) hM h.1.1 hp s6 (zr_fi_none.mpr s9) (by omega) (by omega), h, h0, rfl⟩
        · obtain ⟨f1, f2, f3, f4, f5⟩ := h.commit hp (by omega) he s6 c2 s9 (by omega)
          have n15 := h.2.2.1.2.2.1
          obtain ⟨Z, z1, z2, z3⟩ := k_commit (d := 990) (kx := kx) (I0 := zi (g + 26) S I0) hG' h.pr (h8.trans he) (by omega) hp (by omega) x18 (by omega) (by omega) _ f1 f2 f3
          have kp := zc_n2_kp (g := g) (ne := e + 1) (sh := sh) (P := P)
          have hM' := hM.kp kp (by omega)
          obtain ⟨T, t1, t2, t3⟩ := m_M_commit (d := 996) (nx := g + (45 + 8 * (e + 2))) (kx := kx + 76) (I0 := zx g (zc_gl (e + 1) 1 Z) I0) hM' h.1.1 hp (by omega) he s6 (zr_fi_none.mpr s9) (by omega) (by omega) (by omega) f4
          obtain ⟨j1, j2⟩ := f5 Z T z1 z2 t2 t3
          rw [he] at hn hk
          subst hn
          rw [← zz_comm] at t1
          refine ⟨_, _, _, _, _, _, _, _, _, _, _, z3, t1, ⟨zc_gl (e + 1) 1 Z, T, zz_comm.symm, j1, fun w => by omega, ?_, hM', ?_, ?_, fun a ha => ?_⟩, hM'.1, fun a ha => ?_, fun b j hb => zz_lo hb⟩
          · rw [j2]
            exact zc_n2_lay hG'
          · rw [j2]
          · rw [j2, hk]
            omega
          · rw [← hs a ha]
            exact kp.1 a (by omega)
          · rw [← hs a ha]
            exact kp.1 a (by omega)
      · exact jOne.go hG hM hs hn hk ⟨_, X, S, k_commit_st (d := 998) hG' h.pr (h8.trans he) (by omega) hp (by omega) x18 (by omega), m_M_commit_st (d := 998) hM h.1.1 hp s6 (zr_fi_none.mpr s9) (by omega), h, h0, rfl⟩
