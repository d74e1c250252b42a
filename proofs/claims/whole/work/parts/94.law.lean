theorem zc_lay.kp0 {g n : Nat} {sh sh' : zq_S} {P P' : zq_P} (hG : zc_lay g 0 sh P) (q : zc_kp g n sh P sh' P') (hn : g + 26 ≤ n) : zc_lay g 0 sh' P' := by
  obtain ⟨u0, r0, r1, r2, r3, r4, r5, r6, r7, v1, v2, vp, w1, w2, li, w16, w18, w20, w22, w24, ep⟩ := id hG
  refine ⟨by rw [q.1 _ (by omega)]; exact u0, by rw [q.2 _ _ (by omega) (by omega)]; exact r0, by rw [q.2 _ _ (by omega) (by omega)]; exact r1, by rw [q.2 _ _ (by omega) (by omega)]; exact r2, by rw [q.2 _ _ (by omega) (by omega)]; exact r3, by rw [q.2 _ _ (by omega) (by omega)]; exact r4, by rw [q.2 _ _ (by omega) (by omega)]; exact r5, by rw [q.2 _ _ (by omega) (by omega)]; exact r6, by rw [q.2 _ _ (by omega) (by omega)]; exact r7, by rw [q.1 _ (by omega)]; exact v1, by rw [q.1 _ (by omega)]; exact v2, fun p hp => ⟨by rw [q.2 _ _ (by omega) (by omega)]; exact (vp p hp).1, by rw [q.1 _ (by omega)]; exact (vp p hp).2⟩, by rw [q.1 _ (by omega)]; exact w1, by rw [q.1 _ (by omega)]; exact w2, ?_, w16.kp q (by omega) (by omega), w18.kp q (by omega) (by omega), w20.kp q (by omega) (by omega), w22.kp q (by omega) (by omega), w24.kp q (by omega) (by omega), fun e he => by omega⟩
  obtain ⟨a, b, c, d, e, f, i⟩ := li
  exact ⟨by rw [q.1 _ (by omega)]; exact a, by rw [q.2 _ _ (by omega) (by omega)]; exact b, by rw [q.2 _ _ (by omega) (by omega)]; exact c, by rw [q.1 _ (by omega)]; exact d, by rw [q.1 _ (by omega)]; exact e, by rw [q.1 _ (by omega)]; exact f, by rw [q.1 _ (by omega)]; exact i⟩
theorem J.zero : J (fun _ _ => 0) (fun _ _ => 0) := by
  have b : zr_bd (fun _ _ => 0) := fun _ _ => Nat.zero_lt_succ 65535
  have n : ∀ {Q : Prop} {m : Nat}, m < 0 → Q := fun h => absurd h (Nat.not_lt_zero _)
  refine ⟨⟨⟨b, Nat.zero_le _, fun _ => Nat.zero_lt_succ 7, fun _ => Nat.zero_lt_succ 9, fun _ _ => Nat.zero_lt_succ 7⟩, ⟨b, ?_, ?_⟩, rfl, Nat.zero_le _, rfl, Nat.zero_le _⟩, fun p _ => ⟨rfl, rfl, rfl, rfl, fun z => absurd z (show ¬ (0 : Nat) = 2 by decide), fun z => absurd z (show ¬ (0 : Nat) = 1 by decide), Nat.zero_le _, Nat.zero_lt_succ 20, fun _ => ⟨rfl, rfl⟩⟩, ⟨fun e z => n z, fun e _ z => n z, Nat.zero_le _, fun m z => n z, fun e i _ z => n z⟩, ⟨⟨rfl, rfl, rfl⟩, fun i z => n z, fun k => List.nodup_nil, fun i z => n z, fun p _ _ => rfl, fun i z => n z, fun i z => n z, fun _ => rfl, Nat.zero_le _⟩, ⟨⟨fun m z => n z, fun e _ z => n z⟩, ⟨fun k z => absurd rfl z, fun e z => absurd rfl z⟩, fun hk ht _ _ => ⟨fun k z => absurd rfl z, fun e z => absurd rfl z⟩, fun k z => absurd rfl z, fun e z => absurd rfl z⟩⟩
  · exact (zr_ct_z _ _ fun k _ _ => rfl).symm
  · exact (zr_ct_z _ _ fun k _ _ => rfl).symm
theorem J0.zero : J0 (fun _ _ => 0) := fun _ => ⟨fun _ => ⟨rfl, rfl⟩, Nat.zero_le _, fun _ _ => Or.inl rfl⟩
/-! what is to be shown of the pure machine: on every script the law answers 1, within the room -/
def zq_sh0 (b L : Nat) : zq_S := fun a => if a = b then (1, L) else (0, 0)
def zq_I0 (b : Nat) (xs : Nat → Int32) : zq_I := fun a j => if a = b then xs j else 0
def zq_P0 : zq_P := fun _ _ => none
theorem law_start {d b g kx : Nat} {sh : zq_S} {I : zq_I} {P : zq_P} (hI : ∀ a j, g ≤ a → I a j = 0) : zq_F (d + 2) 0 0 [some (.ref b), none, none, none] [] sh I P g kx = zq_F (d + 2) 0 18 [some (.ref b), some (.ref g), some (.ref (g + 26)), some (.int (nI 0))] [] (zm_ish (zc_ish sh g) (g + 26)) (zx g (fun _ _ => 0) (zi (g + 26) (fun _ _ => 0) I)) (zm_iP (zc_iP P g) (g + 26)) (g + 45) (kx + 2674) := by
  have a1 := m_G_init (d := d) (kx := kx + 10) (g := g) (sh := sh) (I := I) (P := P)
  rw [zc_i_I hI] at a1
  have a2 := m_M_init (d := d + 1) (kx := kx + 10 + 285 + 22) (r := g + 26) (sh := zc_ish sh g) (I := zx g (fun _ _ => 0) I) (P := zc_iP P g)
  have z : ∀ a j, g + 26 ≤ a → zx g (fun _ _ => 0) I a j = 0 := fun a j h => by
    unfold zx
    split
    · unfold xe
      rw [if_neg (by omega)]
      exact nI_0
    · exact hI a j (by omega)
  rw [zm_i_I z] at a2
  rw [zz_comm]
  simp (disch := first | assumption | omega | exact Nat.le_of_ble_eq_true rfl) only [q_L_law_0, q_L_law_3, q_L_law_3i, q_L_law_4, q_L_law_7, q_L_law_7n, q_L_law_8, q_L_law_11, q_L_law_11i, q_L_law_12, q_L_law_15, q_L_law_15n, q_L_law_16, q_L_law_17, Option.bind_some, Option.toList_some, Option.toList_none, List.cons_append, List.nil_append, zq_rf_some, zq_rf_none, ↓reduceIte, zq_lt, zq_le, zq_eq, nI_add, zq_up_s, zq_up_o, zq_up_k, zq_b_eq0, Nat.reduceEqDiff, Nat.reduceLeDiff, Nat.reduceLT, Nat.reduceAdd, not_true_eq_false, not_false_eq_true, Nat.not_lt_zero, zq_on_lt, zq_os, false_or, or_false, or_self, Bool.false_eq_true, a1, a2]
theorem zq_law {b L n0 : Nat} (xs : Nat → Int32) (hL : L ≤ 2048) (hb : b < n0) : ∃ (sh' : zq_S) (I' : zq_I) (P' : zq_P) (nx' kx' : Nat), zq_F 1000 0 0 (zq_ent 0 [.ref b]) [] (zq_sh0 b L) (zq_I0 b xs) zq_P0 n0 0 = some (some (.int 1), sh', I', P', nx', kx') ∧ nx' ≤ n0 + 600000 ∧ kx' ≤ 7302250 := by
  have st := law_start (d := 998) (b := b) (g := n0) (kx := 0) (sh := zq_sh0 b L) (I := zq_I0 b xs) (P := zq_P0) (fun a j h => by unfold zq_I0; rw [if_neg (by omega)])
  have lay : zc_lay n0 0 (zm_ish (zc_ish (zq_sh0 b L) n0) (n0 + 26)) (zm_iP (zc_iP zq_P0 n0) (n0 + 26)) := zc_i_lay.kp0 (n := n0 + 26) ⟨fun a h => zm_ish_o h, fun a j h _ => zm_iP_o h⟩ (Nat.le_refl _)
  obtain ⟨sh', I', P', nx', kx', e, e1, e2⟩ := law_go (c0 := 2674) (I0 := zq_I0 b xs) (sh0 := zq_sh0 b L) hb (by simp [zq_sh0]) (by simp [zq_sh0]) hL L 0 (n0 + 45) (0 + 2674) _ _ _ (by omega) (Nat.zero_le _) ⟨_, _, rfl, J.zero, J0.zero, lay, zm_i_lay, rfl, rfl, fun a h => by rw [zm_ish_o (by omega), zc_ish_o h]⟩
  refine ⟨sh', I', P', nx', kx', ?_, by omega, by omega⟩
  have q : zq_F 1000 0 0 (zq_ent 0 [.ref b]) [] (zq_sh0 b L) (zq_I0 b xs) zq_P0 n0 0 = some (some (.int (nI 1)), sh', I', P', nx', kx') := st.trans e
  exact q
