/-! THE LAW out of the pure machine's answer -/
theorem zq_start_K {s : State} {b L : Nat} {xs : Nat → Int32} {args : Array Value} (hts : ∀ w ∈ lw_tbl, w.before args s = true) {cS : ClassId} (hcS : ArrOfT s cS .int) : ∃ (D : va_G) (dA : Nat → ClassId), dA 1 = cS ∧ zq_K D dA s := by
  have htb : ∀ w ∈ zq_tb, w.before args s = true := fun w hw => hts w (List.mem_filter.mp hw).1
  have hkn : ∀ c, ∃ q : ClassId × (Nat → Nat), c < 7 → u_Kn s (zq_cn c) (zq_T c) (zq_nf c) q.1 q.2 := by
    intro c
    by_cases hc : c < 7
    · have hcc := List.all_eq_true.mp zq_cchk_ok c (List.mem_range.mpr hc)
      simp only [zq_cchk, Bool.and_eq_true] at hcc
      obtain ⟨cC, iS, h⟩ := u_known (C := zq_cn c) (T := zq_T c) (N := zq_nf c) (n := zq_nf c) htb (zq_uws c hc) (htb _ (zq_at_in hcc.2 rfl))
      exact ⟨(cC, iS), fun _ => h⟩
    · exact ⟨(0, fun _ => 0), fun h => absurd h hc⟩
  have harr : ∀ t, ∃ cA : ClassId, ∀ ty, (t, ty) ∈ zq_arr → ArrOfT s cA ty ∧ (t = 1 ∧ cA = cS ∨ t ≠ 1 ∧ va_RA s cA ty) := by
    intro t
    by_cases h1 : t = 1
    · refine ⟨cS, fun ty hty => ?_⟩
      subst h1
      have : ty = .int := by
        have hall : ∀ q ∈ zq_arr, q.1 = 1 → q.2 = FieldType.int := by decide +kernel
        exact hall _ hty rfl
      subst this
      exact ⟨hcS, Or.inl ⟨rfl, rfl⟩⟩
    · by_cases h2 : t = 2
      · obtain ⟨cA, kA, comp, e1, e2, e3⟩ := Cond.arrayClass_spec (htb _ zq_t_ai)
        refine ⟨cA, fun ty hty => ?_⟩
        subst h2
        have : ty = .int := by
          have hall : ∀ q ∈ zq_arr, q.1 = 2 → q.2 = FieldType.int := by decide +kernel
          exact hall _ hty rfl
        subst this
        exact ⟨fun n z => ⟨fun k h => (by cases h), kA, e2, comp, e3⟩, Or.inr ⟨h1, e1⟩⟩
      · by_cases h3 : t = 3
        · obtain ⟨cA, kA, comp, e1, e2, e3⟩ := Cond.arrayClass_spec (htb _ zq_t_az)
          refine ⟨cA, fun ty hty => ?_⟩
          subst h3
          have : ty = .boolean := by
            have hall : ∀ q ∈ zq_arr, q.1 = 3 → q.2 = FieldType.boolean := by decide +kernel
            exact hall _ hty rfl
          subst this
          exact ⟨fun n z => ⟨fun k h => (by cases h), kA, e2, comp, e3⟩, Or.inr ⟨h1, e1⟩⟩
        · by_cases hex : ∃ ty, (t, ty) ∈ zq_arr
          · obtain ⟨ty0, h0⟩ := hex
            have hall : ∀ q ∈ zq_arr, q.1 ≠ 1 → q.1 ≠ 2 → q.1 ≠ 3 → ∀ r ∈ zq_arr, r.1 = q.1 → r.2 = q.2 := by decide +kernel
            have hov : ∀ q ∈ zq_arr, q.1 ≠ 1 → q.1 ≠ 2 → q.1 ≠ 3 → q.2 = .object (zq_cn (q.1 - 50)) ∧ Jvm.Cond.arrayOver (.object (zq_cn (q.1 - 50))) ∈ lw_tbl := by decide +kernel
            obtain ⟨g1, g2⟩ := hov _ h0 h1 h2 h3
            obtain ⟨comp, c, k, e1, e2, e3, e4, e5⟩ := Cond.arrayOver_spec (hts _ g2)
            refine ⟨c, fun ty hty => ?_⟩
            have : ty = ty0 := hall _ h0 h1 h2 h3 _ hty rfl
            subst this
            have g1 : ty = .object (zq_cn (t - 50)) := g1
            rw [g1]
            exact ⟨fun n z => ⟨fun k h => (by cases h), k, e3, comp, e4⟩, Or.inr ⟨h1, k, comp, e3, e4, e1, e5⟩⟩
          · exact ⟨0, fun ty hty => absurd ⟨ty, hty⟩ hex⟩
  refine ⟨(fun c => (Classical.choose (hkn c)).1, fun c => (Classical.choose (hkn c)).2), fun t => Classical.choose (harr t), ?_, ?_, ?_, ?_, ?_⟩
  · rcases (Classical.choose_spec (harr 1) .int zq_t_a1).2 with h | h
    · exact h.2
    · exact absurd rfl h.1
  · intro c q hq
    have hc : c < 7 := (List.getElem?_eq_some_iff.mp hq).1
    have := (zq_vw c hc).symm.trans hq
    cases this
    exact Classical.choose_spec (hkn c) hc
  · intro q hq
    have h := Classical.choose_spec (harr q.1) q.2 hq
    exact ⟨h.1, h.2.imp (fun z => z.1) (fun z => z.2)⟩
  · have hall : ∀ q ∈ zq_nest, Jvm.Cond.methodLinkNest q.1 q.2.1 q.2.2.1 q.2.2.2 ∈ lw_tbl := by decide +kernel
    exact fun q hq => va_Nw.of rfl (hts _ (hall q hq))
  · have hall : ∀ C ∈ zq_ao, Jvm.Cond.arrayOver (.object C) ∈ lw_tbl := by decide +kernel
    exact fun C hC => va_AO.of (hts _ (hall C hC))
set_option maxHeartbeats 4000000 in
theorem whole_start {p : Program} {e : Env} {s : State} {m : MethodId} {below : List Frame} {meth : Method} {c : Code} (l : Launch) {b L : Nat} {xs : Nat → Int32} (hL : L ≤ 2048) (C0 : lw_At p s m meth c b L xs) : W p l e room_1 s m #[Value.ref b] below meth c s.heap [] 0 0 (lw_Z below #[Value.ref b] s) (entryFrame m ([Value.ref b] : List Value).toArray 4) := by
  obtain ⟨hx, hb, hr, hml, hown, hts, hX, hbl, hlocks, hgv⟩ := id C0
  obtain ⟨scr, x1, x2, x3, x4, x5⟩ := hX
  have hAr : ArrOfT s scr.cls .int := by
    obtain ⟨k, hk, comp, hkind⟩ := x2.2
    exact fun n z => ⟨fun k h => (by cases h), k, hk, comp, hkind⟩
  obtain ⟨D, dA, hd1, hK⟩ := zq_start_K (b := b) (L := L) (xs := xs) hts hAr
  obtain ⟨sh', I', P', nx', kx', hF, hn, hk⟩ := zq_law (b := b) (L := L) (n0 := s.heap.size) xs hL hbl
  obtain ⟨le1, le2, hgo⟩ := zq_soundF (D := D) (dA := dA) (lo := s.heap.size) _ _ _ _ _ _ _ _ _ _ _ _ _ _ _ _ hF
  rw [lg_entry_eq]
  refine hgo p l e room_1 s m #[Value.ref b] below meth c s.heap [] 0 0 _ _ ⟨hx, hb, hml, hown, fun w hw => hts w (List.mem_filter.mp hw).1, fun h => absurd h (by decide), hK, by show 1001 ≤ 2048; omega, by show 64 * 1001 ≤ 84000; omega⟩ (zq_l_entry (As := [Value.ref b]) (n := 4) (fun v hv => by rw [List.mem_singleton.mp hv]; rfl) (by show 1 ≤ 4; omega)) ⟨rfl, fun a => ?_⟩ va_S.rf (Nat.le_refl _) (by show 0 + _ ≤ 600000; omega) (by show 0 + _ ≤ 7302250; omega) ?_
  · by_cases ha : a = b
    · subst ha
      unfold zq_cell
      have e1 : zq_sh0 a L a = (1, L) := by simp [zq_sh0]
      rw [e1, if_neg (show ¬ (1 : Nat) = 0 by decide), if_pos rfl]
      exact ⟨scr, x1, hd1.symm, x2.1, x3, x4, fun j hj => by rw [x5 j hj]; simp [zq_I0]⟩
    · unfold zq_cell
      rw [if_pos (by simp [zq_sh0, ha])]
      trivial
  · intro H' locs' pc' ls' ins hd hrt hW' hS'
    refine va_forget (fun q hq => hS'.2.2 q hq) ?_
    refine W.widen (k := 600000) (n := 7302250) (by omega) (by omega) ?_
    have hins : ins = .ireturn := by
      cases ins
      case ireturn => rfl
      all_goals exact absurd hrt (by intro q; first | (cases (show (none : Option (Option Value)) = some _ from q)))
    subst hins
    exact lw_ret hx hb hr hlocks hd
