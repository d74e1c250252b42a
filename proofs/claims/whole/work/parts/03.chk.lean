/-! that the tables bear the links out -/
theorem zq_tb_good (w : Jvm.Cond) (h : w ∈ zq_tb) : goodWord w = true := (List.mem_filter.mp h).2
theorem zq_tb_in {n : Nat} {w : Jvm.Cond} (h : lw_tbl[n]? = some w) (g : goodWord w = true) : w ∈ zq_tb := List.mem_filter.mpr ⟨List.mem_of_getElem? h, g⟩
def zq_at (n : Nat) (w : Jvm.Cond) : Bool := decide (lw_tbl[n]? = some w)
theorem zq_at_in {n : Nat} {w : Jvm.Cond} (h : zq_at n w = true) (g : goodWord w = true) : w ∈ zq_tb := zq_tb_in (of_decide_eq_true h) g
-- classes
def zq_cchk (c : Nat) : Bool := zq_at (zq_wc c).1 (.initialized (zq_cn c)) && zq_at (zq_wc c).2 (.instantiable (zq_cn c) (zq_nf c))
theorem zq_cchk_ok : (List.range 7).all zq_cchk = true := by decide +kernel
theorem zq_lawini : zq_at (zq_wc 7).1 (.initialized (zq_cn 7)) = true := by decide +kernel
theorem zq_uws0 : ∀ w ∈ u_ws (zq_cn 0) (zq_T 0) (zq_nf 0), w ∈ lw_tbl ∧ goodWord w = true := by decide +kernel
theorem zq_uws1 : ∀ w ∈ u_ws (zq_cn 1) (zq_T 1) (zq_nf 1), w ∈ lw_tbl ∧ goodWord w = true := by decide +kernel
theorem zq_uws2 : ∀ w ∈ u_ws (zq_cn 2) (zq_T 2) (zq_nf 2), w ∈ lw_tbl ∧ goodWord w = true := by decide +kernel
theorem zq_uws3 : ∀ w ∈ u_ws (zq_cn 3) (zq_T 3) (zq_nf 3), w ∈ lw_tbl ∧ goodWord w = true := by decide +kernel
theorem zq_uws4 : ∀ w ∈ u_ws (zq_cn 4) (zq_T 4) (zq_nf 4), w ∈ lw_tbl ∧ goodWord w = true := by decide +kernel
theorem zq_uws5 : ∀ w ∈ u_ws (zq_cn 5) (zq_T 5) (zq_nf 5), w ∈ lw_tbl ∧ goodWord w = true := by decide +kernel
theorem zq_uws6 : ∀ w ∈ u_ws (zq_cn 6) (zq_T 6) (zq_nf 6), w ∈ lw_tbl ∧ goodWord w = true := by decide +kernel
theorem zq_uws (c : Nat) (h : c < 7) : ∀ w ∈ u_ws (zq_cn c) (zq_T c) (zq_nf c), w ∈ zq_tb := by
  have key : ∀ w ∈ u_ws (zq_cn c) (zq_T c) (zq_nf c), w ∈ lw_tbl ∧ goodWord w = true := by
    rcases (show c = 0 ∨ c = 1 ∨ c = 2 ∨ c = 3 ∨ c = 4 ∨ c = 5 ∨ c = 6 by omega) with rfl | rfl | rfl | rfl | rfl | rfl | rfl
    · exact zq_uws0
    · exact zq_uws1
    · exact zq_uws2
    · exact zq_uws3
    · exact zq_uws4
    · exact zq_uws5
    · exact zq_uws6
  exact fun w hw => List.mem_filter.mpr (key w hw)
theorem zq_vw (c : Nat) (h : c < 7) : vwCl[c]? = some (zq_cn c, zq_T c, zq_nf c) := by
  rcases (show c = 0 ∨ c = 1 ∨ c = 2 ∨ c = 3 ∨ c = 4 ∨ c = 5 ∨ c = 6 by omega) with rfl | rfl | rfl | rfl | rfl | rfl | rfl <;> rfl
theorem zq_tyok : ∀ c, c < 7 → ∀ k, k < zq_nf c → parseFieldDescriptor (zq_T c k).2.2.1 = some (zq_ty c k) := by decide +kernel
theorem zq_nmok : ∀ c, c < 7 → ∀ a, a < zq_nf c → ∀ b, b < zq_nf c → a ≠ b → (zq_T c a).2.1 ≠ (zq_T c b).2.1 := by decide +kernel
def zq_isr (t : FieldType) : Bool := match t with
  | .object _ => true
  | .array _ => true
  | _ => false
theorem zq_ptok : ∀ c, c < 7 → ∀ k, k < zq_nf c → (zq_ptr c k = false ∧ zq_ty c k = .int) ∨ (zq_ptr c k = true ∧ zq_isr (zq_ty c k) = true) := by decide +kernel
theorem zq_isr_of {t : FieldType} (h : zq_isr t = true) : (∃ n, t = .object n) ∨ ∃ u, t = .array u := by
  cases t <;> first | exact Or.inl ⟨_, rfl⟩ | exact Or.inr ⟨_, rfl⟩ | (simp [zq_isr] at h)
def zq_clsOK (ci : Nat) (C : String) (T : u_T) (N : Nat) : Prop := vwCl[ci]? = some (C, T, N) ∧ (∀ w ∈ u_ws C T N, w ∈ zq_tb) ∧ (∀ k, k < N → parseFieldDescriptor (T k).2.2.1 = some (zq_ty ci k)) ∧ (∀ a, a < N → ∀ b, b < N → a ≠ b → (T a).2.1 ≠ (T b).2.1) ∧ ∀ k, k < N → (zq_ptr ci k = false ∧ zq_ty ci k = .int) ∨ (zq_ptr ci k = true ∧ ((∃ n, zq_ty ci k = .object n) ∨ ∃ t, zq_ty ci k = .array t))
theorem zq_clsok (c : Nat) (h : c < 7) : zq_clsOK c (zq_cn c) (zq_T c) (zq_nf c) :=
  ⟨zq_vw c h, zq_uws c h, zq_tyok c h, zq_nmok c h, fun k hk => (zq_ptok c h k hk).imp id (fun q => ⟨q.1, zq_isr_of q.2⟩)⟩
-- fields
def zq_fchk (oc : Nat) (q : Nat × Nat × Nat × Nat) : Bool := decide (q.2.1 < 7) && (decide (q.2.2.1 < zq_nf q.2.1) && (decide ((zq_T q.2.1 q.2.2.1).1 = zq_cn q.2.1) && zq_at q.2.2.2 (.fieldLink (zq_cn oc) q.1 (zq_T q.2.1 q.2.2.1).1 (zq_T q.2.1 q.2.2.1).2.1 (zq_T q.2.1 q.2.2.1).2.2.1)))
theorem zq_fchk_ok : ∀ oc, oc < 8 → (zq_flT.getD oc []).all (zq_fchk oc) = true := by decide +kernel
theorem zq_oc8 : ∀ i, i < zq_NM → zq_oc i < 8 := by decide +kernel
theorem zq_getD_out {α : Type} {l : List α} {n : Nat} {d : α} (h : l.length ≤ n) : l.getD n d = d := by simp [List.getD, h]
theorem zq_oc_any (i : Nat) : zq_oc i < 8 ∨ zq_oc i = 99 := by
  by_cases h : i < zq_NM
  · exact Or.inl (zq_oc8 i h)
  · right
    exact zq_getD_out (Nat.not_lt.mp h)
theorem zq_flT_out : zq_flT.getD 99 [] = [] := rfl
theorem zq_t_fld {i idx ci k : Nat} (h : zq_fld i idx = some (ci, k)) : ∃ C T N, zq_clsOK ci C T N ∧ k < N ∧ Jvm.Cond.fieldLink (zq_own i) idx (T k).1 (T k).2.1 (T k).2.2.1 ∈ zq_tb ∧ (zq_pok i idx = true → (T k).2.2.2 = false ∨ ((T k).2.2.2 = true ∧ zq_ini i = true ∧ (T k).1 = zq_own i)) := by
  have hp : zq_pok i idx = (!(zq_T ci k).2.2.2 || (zq_ini i && ci == zq_oc i)) := by
    unfold zq_pok
    rw [h]
  unfold zq_fld at h
  obtain ⟨q, hq, he⟩ := Option.map_eq_some_iff.mp h
  have hm := List.mem_of_find?_eq_some hq
  have hx := List.find?_some hq
  cases he
  rcases zq_oc_any i with h8 | h8
  · have hc := List.all_eq_true.mp (zq_fchk_ok _ h8) q hm
    simp only [zq_fchk, Bool.and_eq_true, decide_eq_true_eq] at hc
    obtain ⟨h1, h2, h3, h4⟩ := hc
    have hidx : q.1 = idx := by simpa using hx
    refine ⟨_, _, _, zq_clsok _ h1, h2, ?_, fun hk => ?_⟩
    · rw [← hidx]
      exact zq_at_in h4 rfl
    · rw [hp] at hk
      cases hf : (zq_T q.2.1 q.2.2.1).2.2.2 with
      | false => exact Or.inl rfl
      | true =>
        rw [hf] at hk
        simp only [Bool.not_true, Bool.false_or, Bool.and_eq_true, beq_iff_eq] at hk
        refine Or.inr ⟨rfl, hk.1, ?_⟩
        rw [h3]
        unfold zq_own
        rw [← hk.2]
  · rw [h8, zq_flT_out] at hm
    cases hm
-- classes made
def zq_lchk (oc : Nat) (q : Nat × Nat × Nat) : Bool := decide (q.2.1 < 7) && zq_at q.2.2 (.classLink (zq_cn oc) q.1 (zq_cn q.2.1))
theorem zq_lchk_ok : ∀ oc, oc < 8 → (zq_clT.getD oc []).all (zq_lchk oc) = true := by decide +kernel
theorem zq_t_cls {i idx ci : Nat} (h : zq_cls i idx = some ci) : ∃ C T, zq_clsOK ci C T (zq_nf ci) ∧ Jvm.Cond.classLink (zq_own i) idx C ∈ zq_tb ∧ Jvm.Cond.instantiable C (zq_nf ci) ∈ zq_tb ∧ Jvm.Cond.initialized C ∈ zq_tb := by
  unfold zq_cls at h
  obtain ⟨q, hq, he⟩ := Option.map_eq_some_iff.mp h
  have hm := List.mem_of_find?_eq_some hq
  have hx := List.find?_some hq
  subst he
  rcases zq_oc_any i with h8 | h8
  · have hc := List.all_eq_true.mp (zq_lchk_ok _ h8) q hm
    simp only [zq_lchk, Bool.and_eq_true, decide_eq_true_eq] at hc
    have hidx : q.1 = idx := by simpa using hx
    have hcc := List.all_eq_true.mp zq_cchk_ok q.2.1 (List.mem_range.mpr hc.1)
    simp only [zq_cchk, Bool.and_eq_true] at hcc
    refine ⟨_, _, zq_clsok _ hc.1, ?_, zq_at_in hcc.2 rfl, zq_at_in hcc.1 rfl⟩
    rw [← hidx]
    exact zq_at_in hc.2 rfl
  · rw [h8] at hm
    cases hm
-- arrays of objects
def zq_achk (oc : Nat) (q : Nat × Nat × Nat) : Bool := decide (q.2.1 < 7) && (zq_at q.2.2 (.classLink (zq_cn oc) q.1 (zq_cn q.2.1)) && (decide (zq_cn q.2.1 ∈ zq_ao) && decide ((50 + q.2.1, FieldType.object (zq_cn q.2.1)) ∈ zq_arr)))
theorem zq_achk_ok : ∀ oc, oc < 8 → (zq_acT.getD oc []).all (zq_achk oc) = true := by decide +kernel
theorem zq_t_acl {i idx ci : Nat} (h : zq_acl i idx = some ci) : ∃ C, Jvm.Cond.classLink (zq_own i) idx C ∈ zq_tb ∧ C ∈ zq_ao ∧ (50 + ci, FieldType.object C) ∈ zq_arr ∧ ci < 50 := by
  unfold zq_acl at h
  obtain ⟨q, hq, he⟩ := Option.map_eq_some_iff.mp h
  have hm := List.mem_of_find?_eq_some hq
  have hx := List.find?_some hq
  subst he
  rcases zq_oc_any i with h8 | h8
  · have hc := List.all_eq_true.mp (zq_achk_ok _ h8) q hm
    simp only [zq_achk, Bool.and_eq_true, decide_eq_true_eq] at hc
    have hidx : q.1 = idx := by simpa using hx
    refine ⟨_, ?_, hc.2.2.1, hc.2.2.2, by omega⟩
    rw [← hidx]
    exact zq_at_in hc.2.1 rfl
  · rw [h8] at hm
    cases hm
theorem zq_arrchk : ∀ q ∈ zq_arr, 50 ≤ q.1 → q.2 = .object (zq_cn (q.1 - 50)) ∧ q.1 - 50 < 7 := by decide +kernel
theorem zq_t_acls {t : Nat} {ty : FieldType} (h : (t, ty) ∈ zq_arr) (h50 : 50 ≤ t) : ∃ ci, t = 50 + ci ∧ ∃ C T N, ty = .object C ∧ vwCl[ci]? = some (C, T, N) := by
  obtain ⟨h1, h2⟩ := zq_arrchk _ h h50
  exact ⟨t - 50, by omega, _, _, _, h1, zq_vw _ h2⟩
theorem zq_t_aref {t : Nat} {ty : FieldType} (h : (t, ty) ∈ zq_arr) (h50 : 50 ≤ t) : ty.isReference = true := by
  have h1 := (zq_arrchk _ h h50).1
  have h1 : ty = .object (zq_cn (t - 50)) := h1
  rw [h1]
  rfl
theorem zq_t_a1 : (1, FieldType.int) ∈ zq_arr := by decide +kernel
theorem zq_t_a2 : (2, FieldType.int) ∈ zq_arr := by decide +kernel
theorem zq_t_a3 : (3, FieldType.boolean) ∈ zq_arr := by decide +kernel
theorem zq_t_ai : Jvm.Cond.arrayClass .int ∈ zq_tb := zq_at_in (n := zq_wa.1) (by decide +kernel) rfl
theorem zq_t_az : Jvm.Cond.arrayClass .boolean ∈ zq_tb := zq_at_in (n := zq_wa.2) (by decide +kernel) rfl
-- Object()
def zq_ochk (oc : Nat) (q : Nat × Nat) : Bool := zq_at q.2 (.methodLink (zq_cn oc) q.1 Lib.objectInit)
theorem zq_ochk_ok : ∀ oc, oc < 8 → (zq_obT.getD oc []).all (zq_ochk oc) = true := by decide +kernel
theorem zq_t_oi : Jvm.Cond.instanceMethod Lib.objectInit ∈ zq_tb := zq_at_in (n := zq_wo.1) (by decide +kernel) rfl
theorem zq_t_oc : Jvm.Cond.code Lib.objectInit ⟨#[0xb1]⟩ 1 none ∈ zq_tb := zq_at_in (n := zq_wo.2) (by decide +kernel) rfl
theorem zq_t_obj {i idx : Nat} (h : zq_obj i idx = true) : Jvm.Cond.methodLink (zq_own i) idx Lib.objectInit ∈ zq_tb := by
  unfold zq_obj at h
  obtain ⟨q, hq⟩ := Option.isSome_iff_exists.mp h
  have hm := List.mem_of_find?_eq_some hq
  have hx := List.find?_some hq
  rcases zq_oc_any i with h8 | h8
  · have hc := List.all_eq_true.mp (zq_ochk_ok _ h8) q hm
    have hidx : q.1 = idx := by simpa using hx
    rw [← hidx]
    exact zq_at_in hc rfl
  · rw [h8] at hm
    cases hm
