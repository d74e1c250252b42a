-- methods
def zq_mj (j : Nat) : Prop := plainName (zq_nm j).cls = true ∧ (zq_nm j).cls = zq_own j ∧ zq_na j ≤ zq_ml j ∧ Jvm.Cond.code (zq_nm j) (zq_bc j) (zq_ml j) (zq_ret j) ∈ zq_tb ∧ zq_ml j ≤ 45 ∧ Jvm.Cond.initialized (zq_own j) ∈ zq_tb ∧ ((zq_nm j).cls ≠ "java/lang/invoke/MethodHandle" ∧ (zq_nm j).cls ≠ "java/lang/invoke/VarHandle")
def zq_mchk (j : Nat) : Bool := plainName (zq_nm j).cls && (decide ((zq_nm j).cls = zq_own j) && (decide (zq_na j ≤ zq_ml j) && (true && (decide (zq_ml j ≤ 45) && (zq_at (zq_wc (zq_oc j)).1 (.initialized (zq_own j)) && (decide ((zq_nm j).cls ≠ "java/lang/invoke/MethodHandle") && (decide ((zq_nm j).cls ≠ "java/lang/invoke/VarHandle") && decide (zq_ini j = true → (zq_nm j).name = "<init>"))))))))
theorem zq_mchk1 : ∀ j, j < 40 → 0 < j → zq_mchk j = true := by decide +kernel
theorem zq_mchk2 : ∀ j, j < 40 → j + 40 < zq_NM → zq_mchk (j + 40) = true := by decide +kernel
theorem zq_mchk3 : ∀ j, j < 40 → j + 80 < zq_NM → zq_mchk (j + 80) = true := by decide +kernel
theorem zq_NM_lt : zq_NM ≤ 120 := by decide
theorem zq_mchk_ok (j : Nat) (h0 : 0 < j) (h : j < zq_NM) : zq_mchk j = true := by
  have := zq_NM_lt
  by_cases h1 : j < 40
  · exact zq_mchk1 j h1 h0
  · by_cases h2 : j < 80
    · have := zq_mchk2 (j - 40) (by omega) (by omega)
      rwa [Nat.sub_add_cancel (by omega)] at this
    · have := zq_mchk3 (j - 80) (by omega) (by omega)
      rwa [Nat.sub_add_cancel (by omega)] at this
theorem zq_t_mj (j : Nat) (h0 : 0 < j) (h : j < zq_NM) : zq_mj j := by
  have hc := zq_mchk_ok j h0 h
  simp only [zq_mchk, Bool.and_eq_true, decide_eq_true_eq] at hc
  exact ⟨hc.1, hc.2.1, hc.2.2.1, zq_tb_in (zq_cw_ok j h0 h) rfl, hc.2.2.2.2.1, zq_at_in hc.2.2.2.2.2.1 rfl, hc.2.2.2.2.2.2.1, hc.2.2.2.2.2.2.2.1⟩
theorem zq_t_ini {i : Nat} (h : zq_ini i = true) : (zq_nm i).name = "<init>" := by
  by_cases hn : i < zq_NM
  · by_cases h0 : 0 < i
    · have hc := zq_mchk_ok i h0 hn
      simp only [zq_mchk, Bool.and_eq_true, decide_eq_true_eq] at hc
      exact hc.2.2.2.2.2.2.2.2 h
    · have : i = 0 := by omega
      subst this
      exact absurd h (by decide)
  · have : zq_ini i = false := zq_getD_out (Nat.not_lt.mp hn)
    rw [this] at h
    cases h
def zq_prm (j : Nat) : Option Nat := (parseMethodDescriptor (zq_nm j).desc).map (fun d => d.parameters.length)
def zq_kchk (oc : Nat) (q : Nat × Nat × Nat × Nat × Nat) : Bool :=
  decide (0 < q.2.1) && (decide (q.2.1 < zq_NM) &&
  ((if q.2.2.2.2 = 0 then zq_at q.2.2.2.1 (.methodLink (zq_cn oc) q.1 (zq_nm q.2.1)) else zq_nest.any (fun r => decide (r.1 = zq_cn oc) && (decide (r.2.1 = q.1) && decide (r.2.2.1 = zq_nm q.2.1)))) &&
  (if q.2.2.1 = 0 then decide (0 < zq_na q.2.1) && (decide (zq_oc q.2.1 < 7) && (zq_at (zq_wp q.2.1).2.1 (.instanceMethod (zq_nm q.2.1)) && (zq_at (zq_wp q.2.1).2.2 (.selects (zq_own q.2.1) (zq_nm q.2.1) (zq_nm q.2.1)) && decide (zq_prm q.2.1 = some (zq_na q.2.1 - 1)))))
   else if q.2.2.1 = 1 then decide (0 < zq_na q.2.1) && (decide (zq_ret q.2.1 = none) && (zq_at (zq_wp q.2.1).2.1 (.instanceMethod (zq_nm q.2.1)) && (decide ((zq_nm q.2.1).name = "<init>") && decide (zq_prm q.2.1 = some (zq_na q.2.1 - 1)))))
   else zq_at (zq_wp q.2.1).2.1 (.static (zq_nm q.2.1)) && (decide (q.2.2.1 = 2) && decide (zq_prm q.2.1 = some (zq_na q.2.1))))))
theorem zq_kchk_ok : ∀ oc, oc < 8 → (zq_mlT.getD oc []).all (zq_kchk oc) = true := by decide +kernel
theorem zq_mlk_of {kd i idx j kd' : Nat} (h : zq_mlk kd i idx = some (j, kd')) : kd' = kd ∧ ∃ q, q ∈ zq_mlT.getD (zq_oc i) [] ∧ q.1 = idx ∧ q.2.1 = j ∧ q.2.2.1 = kd ∧ zq_oc i < 8 ∧ zq_kchk (zq_oc i) q = true := by
  unfold zq_mlk at h
  obtain ⟨q, hq, he⟩ := Option.map_eq_some_iff.mp h
  have hm := List.mem_of_find?_eq_some hq
  have hx := List.find?_some hq
  simp only [Bool.and_eq_true, beq_iff_eq] at hx
  cases he
  rcases zq_oc_any i with h8 | h8
  · exact ⟨hx.2, q, hm, hx.1, rfl, hx.2, h8, List.all_eq_true.mp (zq_kchk_ok _ h8) q hm⟩
  · rw [h8] at hm
    cases hm
def zq_lnk (i idx j : Nat) : Prop := Jvm.Cond.methodLink (zq_own i) idx (zq_nm j) ∈ zq_tb ∨ ∃ host, (zq_own i, idx, zq_nm j, host) ∈ zq_nest
theorem zq_lnk_of {oc n idx j f : Nat} (h : (if f = 0 then zq_at n (.methodLink (zq_cn oc) idx (zq_nm j)) else zq_nest.any (fun r => decide (r.1 = zq_cn oc) && (decide (r.2.1 = idx) && decide (r.2.2.1 = zq_nm j)))) = true) : Jvm.Cond.methodLink (zq_cn oc) idx (zq_nm j) ∈ zq_tb ∨ ∃ host, (zq_cn oc, idx, zq_nm j, host) ∈ zq_nest := by
  split at h
  · exact Or.inl (zq_at_in h rfl)
  · right
    obtain ⟨r, hr, h⟩ := List.any_eq_true.mp h
    simp only [Bool.and_eq_true, decide_eq_true_eq] at h
    refine ⟨r.2.2.2, ?_⟩
    rw [← h.1, ← h.2.1, ← h.2.2]
    exact hr
theorem zq_t_mth {i j kd : Nat} {ins : Instr} (h : zq_mth i ins = some (j, kd)) : zq_mj j ∧
    ((kd = 0 ∧ ∃ idx, ins = .invokevirtual idx ∧ zq_lnk i idx j ∧ Jvm.Cond.instanceMethod (zq_nm j) ∈ zq_tb ∧ Jvm.Cond.selects (zq_own j) (zq_nm j) (zq_nm j) ∈ zq_tb ∧ zq_prm j = some (zq_na j - 1) ∧ ∃ T N, vwCl[zq_oc j]? = some (zq_own j, T, N) ∧ 0 < zq_na j) ∨
     (kd = 1 ∧ ∃ idx, ins = .invokespecial idx ∧ zq_lnk i idx j ∧ Jvm.Cond.instanceMethod (zq_nm j) ∈ zq_tb ∧ zq_ret j = none ∧ zq_prm j = some (zq_na j - 1) ∧ (zq_nm j).name = "<init>" ∧ 0 < zq_na j) ∨
     (kd = 2 ∧ ∃ idx, ins = .invokestatic idx ∧ zq_lnk i idx j ∧ Jvm.Cond.static (zq_nm j) ∈ zq_tb ∧ zq_prm j = some (zq_na j))) := by
  cases ins
  case invokevirtual idx =>
    obtain ⟨rfl, q, hm, h1, h2, h3, h8, hc⟩ := zq_mlk_of (show zq_mlk 0 i idx = some (j, kd) from h)
    simp only [zq_kchk, h1, h2, h3, Bool.and_eq_true, decide_eq_true_eq, if_true] at hc
    obtain ⟨c1, c2, c3, c4, c5, c6, c7, c8⟩ := hc
    exact ⟨zq_t_mj j c1 c2, Or.inl ⟨rfl, idx, rfl, zq_lnk_of c3, zq_at_in c6 rfl, zq_at_in c7 rfl, c8, _, _, zq_vw _ c5, c4⟩⟩
  case invokespecial idx =>
    obtain ⟨rfl, q, hm, h1, h2, h3, h8, hc⟩ := zq_mlk_of (show zq_mlk 1 i idx = some (j, kd) from h)
    simp only [zq_kchk, h1, h2, h3, Bool.and_eq_true, decide_eq_true_eq, if_true, Nat.one_ne_zero, if_false] at hc
    obtain ⟨c1, c2, c3, c4, c5, c6, c7, c8⟩ := hc
    exact ⟨zq_t_mj j c1 c2, Or.inr (Or.inl ⟨rfl, idx, rfl, zq_lnk_of c3, zq_at_in c6 rfl, c5, c8, c7, c4⟩)⟩
  case invokestatic idx =>
    obtain ⟨rfl, q, hm, h1, h2, h3, h8, hc⟩ := zq_mlk_of (show zq_mlk 2 i idx = some (j, kd) from h)
    simp only [zq_kchk, h1, h2, h3, Bool.and_eq_true, decide_eq_true_eq] at hc
    obtain ⟨c1, c2, c3, c4⟩ := hc
    rw [if_neg (by decide), if_neg (by decide)] at c4
    simp only [Bool.and_eq_true, decide_eq_true_eq] at c4
    obtain ⟨c4, -, c5⟩ := c4
    exact ⟨zq_t_mj j c1 c2, Or.inr (Or.inr ⟨rfl, idx, rfl, zq_lnk_of c3, zq_at_in c4 rfl, c5⟩)⟩
  all_goals exact absurd h (fun q => by cases (show (none : Option (Nat × Nat)) = some _ from q))
