/-! calls and the whole run -/
def zq_ws (i : Nat) : List Jvm.Cond := Jvm.Cond.code (zq_nm i) (zq_bc i) (zq_ml i) (zq_ret i) :: zq_tb
def zq_rm (d mc ms : Nat) : Room := { frames := d, cells := mc, slots := ms, locals := 64 * d }
def zq_Pc (D : va_G) (dA : Nat → ClassId) (lo : Nat) (As : List Value) (sh : zq_S) (I : zq_I) (P : zq_P) (nx : Nat) : Array Value → State → Prop := va_Pc As (fun U => zq_K D dA U ∧ zq_W D dA lo sh I P nx U.heap ∧ lo ≤ U.heap.size)
def zq_Qc (D : va_G) (dA : Nat → ClassId) (lo : Nat) (v : Option Value) (sh : zq_S) (I : zq_I) (P : zq_P) (nx : Nat) : Array Value → State → Outcome → State → Prop := fun _ st oc t => oc = .returned v ∧ zq_W D dA lo sh I P nx t.heap ∧ st.heap.size ≤ t.heap.size ∧ ∀ q : Nat, q < st.heap.size → ¬ lo ≤ q → t.heap[q]? = st.heap[q]?
def zq_Snd (D : va_G) (dA : Nat → ClassId) (lo : Nat) (rec : zq_R) : Prop := ∀ (d i pc : Nat) (L : zq_L) (st : List Value) (sh : zq_S) (I : zq_I) (P : zq_P) (nx kx : Nat) (v : Option Value) (sh' : zq_S) (I' : zq_I) (P' : zq_P) (nx' kx' : Nat), rec d i pc L st sh I P nx kx = some (v, sh', I', P', nx', kx') →
  nx ≤ nx' ∧ kx ≤ kx' ∧ ∀ (p : Program) (l : Launch) (e : Env) (R : Room) (s : State) (m : MethodId) (args : Array Value) (below : List Frame) (meth : Method) (c : Code) (H : Heap) (locs : List Loc) (cells slots : Nat) (Q : State → Prop) (ls : Array Slot),
    zq_X p R s m args meth c i (d + 1) D dA → zq_l ls L (zq_ml i) → zq_W D dA lo sh I P nx H → va_S (fun q => lo ≤ q) s.heap H locs → lo ≤ s.heap.size → cells + (nx' - nx) ≤ R.cells → slots + (kx' - kx) ≤ R.slots →
    (∀ (H' : Heap) (locs' : List Loc) (pc' : Nat) (ls' : Array Slot) (ins : Instr), decode (zq_bc i) pc' = .ok (ins, 1) → zq_rt i ins v.toList = some v → zq_W D dA lo sh' I' P' nx' H' → va_S (fun q => lo ≤ q) s.heap H' locs' → W p l e R s m args below meth c H' locs' (cells + (nx' - nx)) (slots + (kx' - kx)) Q (F0 m pc' ls' v.toList)) →
    W p l e R s m args below meth c H locs cells slots Q (F0 m pc ls st)
theorem zq_rt_st {i : Nat} {ins : Instr} {st : List Value} {v : Option Value} (h : zq_rt i ins st = some v) : st = v.toList := by
  cases ins
  case ireturn =>
    replace h : zq_rti (zq_ret i) st = some v := h
    unfold zq_rti at h
    split at h
    · cases h; rfl
    · split at h
      · cases h; rfl
      · cases h
    · cases h
  case areturn =>
    replace h : zq_rta (zq_ret i) st = some v := h
    unfold zq_rta at h
    split at h
    · split at h
      · cases h; rfl
      · cases h
    · cases h
  case return_ =>
    replace h : zq_rtv (zq_ret i) st = some v := h
    unfold zq_rtv at h
    split at h
    · cases h; rfl
    · cases h
  all_goals exact absurd h (fun q => by cases (show (none : Option (Option Value)) = some _ from q))
theorem zq_rt_len {i : Nat} {ins : Instr} {st : List Value} {v : Option Value} (h : zq_rt i ins st = some v) : zq_sw ins = false ∧ zq_len ins = 1 := by
  cases ins
  case ireturn => exact ⟨rfl, rfl⟩
  case areturn => exact ⟨rfl, rfl⟩
  case return_ => exact ⟨rfl, rfl⟩
  all_goals exact absurd h (fun q => by cases (show (none : Option (Option Value)) = some _ from q))
theorem zq_sl_cat : ∀ (vs : List Value), (∀ v ∈ vs, v.category = 1) → lg_sl vs = vs.map Slot.val
  | [], _ => rfl
  | v :: vs, h => by
    have h1 : v.category = 1 := h v List.mem_cons_self
    have h2 := zq_sl_cat vs (fun w hw => h w (List.mem_cons_of_mem _ hw))
    unfold lg_sl at h2 ⊢
    rw [List.flatMap_cons, h2, if_neg (by omega)]
    rfl
theorem zq_args_at : ∀ (vs : List Value) (b k : Nat) (w : Value), (∀ v ∈ vs, v.category = 1) → vs[k]? = some w → (b + k, w) ∈ lv_args b vs
  | [], b, k, w, _, h => by simp at h
  | v :: vs, b, 0, w, _, h => by
    have : v = w := by simpa using h
    subst this
    simp [lv_args]
  | v :: vs, b, k + 1, w, hc, h => by
    have h1 : v.category = 1 := hc v List.mem_cons_self
    have h2 := zq_args_at vs (b + 1) k w (fun u hu => hc u (List.mem_cons_of_mem _ hu)) (by simpa using h)
    have e : b + (k + 1) = b + 1 + k := by omega
    rw [e]
    simp only [lv_args, h1]
    exact List.mem_cons_of_mem _ h2
theorem zq_l_entry {As : List Value} {n : Nat} (hc : ∀ v ∈ As, v.category = 1) (hn : As.length ≤ n) : zq_l ((lg_sl As ++ List.replicate (n - (lg_sl As).length) Slot.unset).toArray) (As.map some ++ List.replicate (n - As.length) none) n := by
  have hs := zq_sl_cat As hc
  have hlen : (lg_sl As).length = As.length := by rw [hs, List.length_map]
  have hl := lv_entry As (n := n) (by rw [hlen]; exact hn)
  refine ⟨hl.1, by simp; omega, hl.2.1, fun k w hk => ?_⟩
  by_cases hkl : k < As.length
  · rw [List.getElem?_append_left (by simpa using hkl), List.getElem?_map] at hk
    have hw : As[k]? = some w := by
      cases hq : As[k]? with
      | none => rw [hq] at hk; cases hk
      | some u => rw [hq] at hk; simp at hk; rw [hk]
    have hm := zq_args_at As 0 k w hc hw
    rw [Nat.zero_add] at hm
    exact ⟨hl.2.2 _ hm, hc w (List.mem_of_getElem? hw)⟩
  · rw [List.getElem?_append_right (by simpa using Nat.not_lt.mp hkl)] at hk
    have := List.mem_of_getElem? hk
    rw [List.mem_replicate] at this
    cases this.2
section ZQC
variable {D : va_G} {dA : Nat → ClassId} {lo : Nat} {rec : zq_R}
set_option maxHeartbeats 4000000 in
theorem zq_met (hrec : zq_Snd D dA lo rec) {d j : Nat} {As : List Value} {sh sh' : zq_S} {I I' : zq_I} {P P' : zq_P} {nx kx nx' kx' : Nat} {v : Option Value} (hj : zq_mj j) (hc : ∀ w ∈ As, w.category = 1) (hn : As.length = zq_na j) (h : rec d j 0 (zq_ent j As) [] sh I P nx kx = some (v, sh', I', P', nx', kx')) (l : Launch) :
    Met l (zq_nm j) (zq_ws j) (zq_rm (d + 1) (nx' - nx) (kx' - kx)) (zq_Pc D dA lo As sh I P nx) (zq_Qc D dA lo v sh' I' P' nx') (nx' - nx) (kx' - kx) (fun q => lo ≤ q) := by
  obtain ⟨hle1, hle2, hgo⟩ := hrec _ _ _ _ _ _ _ _ _ _ _ _ _ _ _ _ h
  refine Met.ofW (cc := zq_bc j) (maxL := zq_ml j) (ret := zq_ret j) hj.1 rfl ?_
  intro p e s m args below meth c s₁ B hml hv
  obtain ⟨rfl, hK, hW, hlo⟩ := hv
  have hts := atoms_spec (ws := zq_ws j) B.pre
  have hown : s.vm.findClass (zq_own j) = some m.cls := by rw [← hj.2.1]; exact findClass_of_methodNamed B.named
  have hnm : zq_ini j = true → meth.name = "<init>" := fun h => (name_of_methodNamed B.named B.method).1.trans (zq_t_ini h)
  rw [lg_entry_eq]
  have hl := zq_l_entry (n := zq_ml j) hc (by rw [hn]; exact hj.2.2.1)
  refine hgo p l e _ s m _ below meth c s.heap [] 0 0 _ _ ⟨B.exec, B.bytes, hml, hown, fun w hw => hts w (List.mem_cons_of_mem _ hw), hnm, hK, Nat.le_refl _, Nat.le_refl _⟩ hl hW va_S.rf hlo (by show 0 + _ ≤ nx' - nx; omega) (by show 0 + _ ≤ kx' - kx; omega) ?_
  intro H' locs' pc' ls' ins hd hr hW' hS'
  have hq : ∀ t : State, t.heap = H' → zq_Qc D dA lo v sh' I' P' nx' As.toArray s (.returned v) t := fun t ht => ⟨rfl, by rw [ht]; exact hW', by rw [ht]; exact hS'.1, fun q h1 h2 => by rw [ht]; exact hS'.2.1 q h1 h2⟩
  have hret := B.returns
  have hlocks := B.notSynchronized
  rw [Nat.zero_add, Nat.zero_add]
  cases ins
  case ireturn =>
    replace hr : zq_rti (zq_ret j) v.toList = some v := hr
    unfold zq_rti at hr
    split at hr
    · rename_i x h1 h2
      cases hr
      exact W.iret B.exec B.bytes (hret.trans h1) (fun t ht _ => hq t ht) hS'.2.2 hd hlocks
    · rename_i x h1 h2
      split at hr
      · rename_i hx
        cases hr
        exact W.zret B.exec B.bytes (hret.trans h1) (by rcases hx with rfl | rfl <;> rfl) (fun t ht _ => hq t ht) hS'.2.2 hd hlocks
      · cases hr
    · cases hr
  case areturn =>
    replace hr : zq_rta (zq_ret j) v.toList = some v := hr
    unfold zq_rta at hr
    split at hr
    · rename_i C w h1 h2
      split at hr
      · rename_i hx
        cases hr
        exact W.aret B.exec B.bytes (hret.trans h1) (Or.inl ⟨_, rfl⟩) (zq_ref_cases hx) (fun t ht _ => hq t ht) hS'.2.2 hd hlocks
      · cases hr
    · cases hr
  case return_ =>
    replace hr : zq_rtv (zq_ret j) v.toList = some v := hr
    unfold zq_rtv at hr
    split at hr
    · rename_i h1 h2
      cases hr
      exact W.vret B.exec B.bytes (hret.trans h1) (fun t ht _ => hq t ht) hS'.2.2 hd hlocks
    · cases hr
  all_goals exact absurd hr (fun q => by cases (show (none : Option (Option Value)) = some _ from q))
theorem zq_blind (As : List Value) (sh : zq_S) (I : zq_I) (P : zq_P) (nx : Nat) : FrameBlind (zq_Pc D dA lo As sh I P nx) := fun a U g mk h => ⟨h.1, zq_K.same rfl h.2.1, h.2.2.1, h.2.2.2⟩
variable {p : Program} {l : Launch} {e : Env} {R : Room} {s : State} {m : MethodId} {args : Array Value} {below : List Frame} {meth : Method} {c : Code} {H : Heap} {locs : List Loc} {cells slots : Nat} {Q : State → Prop}
/-- behind a call -/
theorem zq_after {mc ms pc nx' : Nat} {ls : Array Slot} {st0 rest : List Value} {v : Option Value} {a : Array Value} {sh' : zq_S} {I' : zq_I} {P' : zq_P} (hr : va_Run p l e R s m args below meth c H locs cells slots mc ms (F0 m pc ls st0) rest (zq_Qc D dA lo v sh' I' P' nx' a) (fun q => lo ≤ q)) (hS : va_S (fun q => lo ≤ q) s.heap H locs)
    (kk : ∀ (H1 : Heap) (locs1 : List Loc), zq_W D dA lo sh' I' P' nx' H1 → va_S (fun q => lo ≤ q) s.heap H1 locs1 → W p l e R s m args below meth c H1 locs1 (cells + mc) (slots + ms) Q (F0 m (pc + 3) ls (v.toList ++ rest))) : W p l e R s m args below meth c H locs cells slots Q (F0 m pc ls st0) := by
  intro T hT X
  obtain ⟨v', st₀, t, T', L, h0, X', hL, e1, e2, ⟨hv, hW, hz, hk⟩, st⟩ := hr T hT X
  have hv' : v' = v := by injection hv
  subst hv'
  rw [h0] at hz hk
  obtain ⟨t2, a1, b1⟩ := kk T'.heap (locs ++ L) (by rw [e1]; exact hW)
    ⟨Nat.le_trans hS.1 (by rw [e1]; exact hz), fun q h1 h2 => by rw [e1, hk q (Nat.lt_of_lt_of_le h1 hS.1) h2]; exact hS.2.1 q h1 h2, fun q hq => by
      rcases List.mem_append.mp hq with h | h
      · exact hS.2.2 q h
      · exact hL q h⟩ T' rfl X'
  exact ⟨t2, st t2 a1, b1⟩
theorem zq_good (j : Nat) (hj : zq_mj j) : GoodIn zq_tb (zq_ws j) := by
  intro w hw
  have hm : w ∈ zq_tb := by
    rcases List.mem_cons.mp hw with rfl | h
    · exact hj.2.2.2.1
    · exact h
  exact ⟨hm, good_of_word (zq_tb_good w hm)⟩
set_option maxHeartbeats 8000000 in
theorem zq_call_W (hrec : zq_Snd D dA lo rec) {d i pc j kd nx kx nx1 kx1 : Nat} {ins : Instr} {ls : Array Slot} {st : List Value} {sh sh1 : zq_S} {I I1 : zq_I} {P P1 : zq_P} {v : Option Value} (hX : zq_X p R s m args meth c i (d + 2) D dA) (hd : zq_dec (zq_bc i) pc ins) (hls : ls.size = zq_ml i) (hm : zq_mth i ins = some (j, kd)) (ha : zq_arg kd j st sh = true) (hW : zq_W D dA lo sh I P nx H) (hS : va_S (fun q => lo ≤ q) s.heap H locs) (hlo : lo ≤ s.heap.size)
    (h : rec d j 0 (zq_ent j (st.take (zq_na j)).reverse) [] sh I P nx kx = some (v, sh1, I1, P1, nx1, kx1)) (hc : cells + (nx1 - nx) ≤ R.cells) (hs : slots + (kx1 - kx) ≤ R.slots)
    (kk : ∀ (H1 : Heap) (locs1 : List Loc), zq_W D dA lo sh1 I1 P1 nx1 H1 → va_S (fun q => lo ≤ q) s.heap H1 locs1 → W p l e R s m args below meth c H1 locs1 (cells + (nx1 - nx)) (slots + (kx1 - kx)) Q (F0 m (pc + 3) ls (v.toList ++ st.drop (zq_na j)))) : W p l e R s m args below meth c H locs cells slots Q (F0 m pc ls st) := by
  obtain ⟨hj, hk⟩ := zq_t_mth hm
  obtain ⟨hx, hb, hml, hown, hts, -, hK, hfr, hlc⟩ := hX
  simp only [zq_arg, Bool.and_eq_true, Bool.or_eq_true, decide_eq_true_eq, List.all_eq_true, beq_iff_eq] at ha
  obtain ⟨ha1, ha2, ha3, ha4⟩ := ha
  have hsplit : st.take (zq_na j) ++ st.drop (zq_na j) = st := List.take_append_drop _ _
  have hlt : (st.take (zq_na j)).length = zq_na j := by rw [List.length_take]; omega
  have hcat : ∀ w ∈ (st.take (zq_na j)).reverse, w.category = 1 := fun w hw => ha3 w (List.mem_reverse.mp hw)
  have hM := zq_met hrec hj hcat (by rw [List.length_reverse]; exact hlt) h l
  have hR : (zq_rm (d + 1) (nx1 - nx) (kx1 - kx)).frames + 1 ≤ R.frames ∧ 8 + (zq_ml j + 11) + (zq_rm (d + 1) (nx1 - nx) (kx1 - kx)).locals ≤ R.locals := by
    have := hj.2.2.2.2.1
    show d + 1 + 1 ≤ _ ∧ 8 + (zq_ml j + 11) + 64 * (d + 1) ≤ _
    omega
  have hPc : ∀ U : State, U.heap = H → s.WarmedH U.vm → zq_Pc D dA lo (st.take (zq_na j)).reverse sh I P nx (st.take (zq_na j)).reverse.toArray U := fun U hU hWm => ⟨rfl, hK.moved hWm, by rw [hU]; exact hW, by rw [hU]; exact Nat.le_trans hlo hS.1⟩
  have hini := hts _ hj.2.2.2.2.2.1
  have hini : (Jvm.Cond.initialized (zq_nm j).cls).before args s = true := by rw [hj.2.1]; exact hini
  have hmh := hj.2.2.2.2.2.2
  rcases hk with ⟨rfl, idx, rfl, hlink, hin, hsel, hpar, T, N, hcl, hna⟩ | ⟨rfl, idx, rfl, hlink, hin, hret, hpar, hin1, hna⟩ | ⟨rfl, idx, rfl, hlink, hst, hpar⟩
  · -- invokevirtual
    have ha5 : zq_rcv 0 j st sh = true := by
      rcases ha4 with q | q
      · exact absurd q (by decide)
      · exact q
    unfold zq_rcv at ha5
    split at ha5
    · rename_i b hbq
      have hsb : (sh b).1 = 100 + zq_oc j := by
        simp at ha5
        exact ha5
      have hcell := hW.2 b
      rw [hsb] at hcell
      obtain ⟨-, r, hr, cell, q1, q2, q3, q4⟩ := hcell.obj
      cases hcl.symm.trans hr
      have hrc : ∃ cellB : Cell, H[b]? = some cellB ∧ cellB.vm.isStatics = false ∧ s.vm.findClass (zq_own j) = some cellB.cls := ⟨cell, q1, by rw [q3]; rfl, by rw [q2]; exact (hK.1 _ _ hcl).2.1⟩
      obtain ⟨As, hAs⟩ : ∃ As, (st.take (zq_na j)).reverse = .ref b :: As := by
        have h1 : (st.take (zq_na j))[zq_na j - 1]? = some (.ref b) := by
          rw [List.getElem?_take, if_pos (by omega)]
          exact hbq
        have h2 : (st.take (zq_na j)).reverse[0]? = some (.ref b) := by
          rw [List.getElem?_reverse (by omega), hlt]
          simpa using h1
        cases hq : (st.take (zq_na j)).reverse with
        | nil => rw [hq] at h2; simp at h2
        | cons x As => rw [hq] at h2; simp at h2; exact ⟨As, by rw [h2]⟩
      rw [hAs] at hM hPc
      have hst0 : st = As.reverse ++ .ref b :: st.drop (zq_na j) := by
        have : st.take (zq_na j) = As.reverse ++ [.ref b] := by
          rw [← List.reverse_reverse (st.take (zq_na j)), hAs, List.reverse_cons]
        conv => lhs; rw [← hsplit, this]
        simp
      have hAl : As.length = zq_na j - 1 := by
        have := congrArg List.length hAs
        rw [List.length_reverse, hlt, List.length_cons] at this
        omega
      rcases hlink with hlink | ⟨host, hlink⟩
      · refine zq_after (va_runV (C := zq_own j) (As := As) (b := b) (rest := st.drop (zq_na j)) ⟨hx, hb, hml, hown, hts⟩ hM ⟨callB_of (Ts := zq_tb) (zq_na j - 1) hts (zq_good j hj) rfl rfl rfl hini (hts _ hlink) ⟨hmh.1, hmh.2, hpar⟩ hR, hts _ hin, hts _ hsel⟩ ⟨zq_blind _ _ _ _ _, hrc, hPc⟩ rfl hAl hls hst0 (lv_room ha2) (hd.at rfl) ⟨hc, hs⟩) hS kk
      · refine zq_after (va_runVN (C := zq_own j) (host := host) (As := As) (b := b) (rest := st.drop (zq_na j)) ⟨hx, hb, hml, hown, hts⟩ hM ⟨va_cnB (Ts := zq_tb) (zq_na j - 1) hts (zq_good j hj) rfl rfl rfl (hK.2.2.1 _ hlink) hini ⟨hmh.1, hmh.2, hpar⟩ hR, hts _ hin, hts _ hsel⟩ ⟨zq_blind _ _ _ _ _, hrc, hPc⟩ rfl hAl hls hst0 (lv_room ha2) (hd.at rfl) ⟨hc, hs⟩) hS kk
    · cases ha5
  · -- invokespecial
    have ha5 : zq_rcv 1 j st sh = true := by
      rcases ha4 with q | q
      · exact absurd q (by decide)
      · exact q
    unfold zq_rcv at ha5
    split at ha5
    · rename_i b hbq
      obtain ⟨As, hAs⟩ : ∃ As, (st.take (zq_na j)).reverse = .ref b :: As := by
        have h1 : (st.take (zq_na j))[zq_na j - 1]? = some (.ref b) := by
          rw [List.getElem?_take, if_pos (by omega)]
          exact hbq
        have h2 : (st.take (zq_na j)).reverse[0]? = some (.ref b) := by
          rw [List.getElem?_reverse (by omega), hlt]
          simpa using h1
        cases hq : (st.take (zq_na j)).reverse with
        | nil => rw [hq] at h2; simp at h2
        | cons x As => rw [hq] at h2; simp at h2; exact ⟨As, by rw [h2]⟩
      rw [hAs] at hM hPc
      have hst0 : st = As.reverse ++ .ref b :: st.drop (zq_na j) := by
        have : st.take (zq_na j) = As.reverse ++ [.ref b] := by
          rw [← List.reverse_reverse (st.take (zq_na j)), hAs, List.reverse_cons]
        conv => lhs; rw [← hsplit, this]
        simp
      have hAl : As.length = zq_na j - 1 := by
        have := congrArg List.length hAs
        rw [List.length_reverse, hlt, List.length_cons] at this
        omega
      have hwr : zq_ws j = Jvm.Cond.code (zq_nm j) (zq_bc j) (zq_ml j) none :: zq_tb := by rw [← hret]; rfl
      rcases hlink with hlink | ⟨host, hlink⟩
      · refine zq_after (va_runI (As := As) (b := b) (rest := st.drop (zq_na j)) ⟨hx, hb, hml, hown, hts⟩ hM ⟨callB_of (Ts := zq_tb) (zq_na j - 1) hts (zq_good j hj) hwr rfl rfl hini (hts _ hlink) ⟨hmh.1, hmh.2, hpar⟩ hR, hin1, hts _ hin⟩ ⟨zq_blind _ _ _ _ _, hPc⟩ rfl hAl hls hst0 (lv_room ha2) (hd.at rfl) ⟨hc, hs⟩) hS kk
      · refine zq_after (va_runIN (host := host) (As := As) (b := b) (rest := st.drop (zq_na j)) ⟨hx, hb, hml, hown, hts⟩ hM ⟨va_cnB (Ts := zq_tb) (zq_na j - 1) hts (zq_good j hj) hwr rfl rfl (hK.2.2.1 _ hlink) hini ⟨hmh.1, hmh.2, hpar⟩ hR, hin1, hts _ hin⟩ ⟨zq_blind _ _ _ _ _, hPc⟩ rfl hAl hls hst0 (lv_room ha2) (hd.at rfl) ⟨hc, hs⟩) hS kk
    · cases ha5
  · -- invokestatic
    have hst0 : st = ((st.take (zq_na j)).reverse).reverse ++ st.drop (zq_na j) := by rw [List.reverse_reverse, hsplit]
    rcases hlink with hlink | ⟨host, hlink⟩
    · refine zq_after (va_runS (As := (st.take (zq_na j)).reverse) (rest := st.drop (zq_na j)) ⟨hx, hb, hml, hown, hts⟩ hM ⟨callB_of (Ts := zq_tb) (zq_na j) hts (zq_good j hj) rfl rfl rfl hini (hts _ hlink) ⟨hmh.1, hmh.2, hpar⟩ hR, hts _ hst⟩ ⟨zq_blind _ _ _ _ _, hPc⟩ rfl (by rw [List.length_reverse]; exact hlt) hls hst0 (lv_room ha2) (hd.at rfl) ⟨hc, hs⟩) hS kk
    · refine zq_after (va_runSN (host := host) (As := (st.take (zq_na j)).reverse) (rest := st.drop (zq_na j)) ⟨hx, hb, hml, hown, hts⟩ hM ⟨va_cnB (Ts := zq_tb) (zq_na j) hts (zq_good j hj) rfl rfl rfl (hK.2.2.1 _ hlink) hini ⟨hmh.1, hmh.2, hpar⟩ hR, hts _ hst, trivial⟩ ⟨zq_blind _ _ _ _ _, hPc⟩ rfl (by rw [List.length_reverse]; exact hlt) hls hst0 (lv_room ha2) (hd.at rfl) ⟨hc, hs⟩) hS kk
set_option maxHeartbeats 4000000 in
theorem zq_body_snd (hrec : zq_Snd D dA lo rec) : zq_Snd D dA lo (zq_body rec) := by
  intro d i pc L st sh I P nx kx v sh' I' P' nx' kx' h
  unfold zq_body at h
  split at h
  · cases h
  · rename_i ins hi
    have hd := zq_t_ins hi
    split at h
    · rename_i j kd hm
      split at h
      · cases h
      · rename_i d'
        split at h
        · rename_i ha
          obtain ⟨⟨v1, sh1, I1, P1, nx1, kx1⟩, h1, h2⟩ := Option.bind_eq_some_iff.mp h
          dsimp only at h2
          obtain ⟨a1, a2, -⟩ := hrec _ _ _ _ _ _ _ _ _ _ _ _ _ _ _ _ h1
          obtain ⟨b1, b2, b3⟩ := hrec _ _ _ _ _ _ _ _ _ _ _ _ _ _ _ _ h2
          refine ⟨Nat.le_trans a1 b1, Nat.le_trans a2 b2, ?_⟩
          intro p l e R s m args below meth c H locs cells slots Q ls hX hl hW hS hlo hc hs kk
          refine zq_call_W hrec hX hd hl.1 hm ha hW hS hlo h1 (by omega) (by omega) ?_
          intro H1 locs1 hW1 hS1
          refine b3 p l e R s m args below meth c H1 locs1 _ _ Q ls hX hl hW1 hS1 hlo (by omega) (by omega) ?_
          rw [show cells + (nx1 - nx) + (nx' - nx1) = cells + (nx' - nx) by omega, show slots + (kx1 - kx) + (kx' - kx1) = slots + (kx' - kx) by omega]
          exact kk
        · cases h
    · split at h
      · rename_i w hr
        cases h
        refine ⟨Nat.le_refl _, Nat.le_refl _, ?_⟩
        intro p l e R s m args below meth c H locs cells slots Q ls hX hl hW hS hlo hc hs kk
        simp only [Nat.sub_self, Nat.add_zero] at kk
        have hst := zq_rt_st hr
        subst hst
        obtain ⟨g1, g2⟩ := zq_rt_len hr
        have hd1 := hd.at g1
        rw [g2] at hd1
        exact kk H locs pc ls ins hd1 hr hW hS
      · split at h
        · rename_i q hq
          obtain ⟨pc1, L1, st1, sh1, I1, P1, nx1, kx1⟩ := q
          dsimp only at h
          obtain ⟨b1, b2, b3⟩ := hrec _ _ _ _ _ _ _ _ _ _ _ _ _ _ _ _ h
          unfold zq_next at hq
          split at hq
          · rename_i q1 hp
            obtain ⟨pc2, L2, st2⟩ := q1
            cases hq
            refine ⟨b1, b2, ?_⟩
            intro p l e R s m args below meth c H locs cells slots Q ls hX hl hW hS hlo hc hs kk
            exact zq_pure_W hX.1 hX.2.1 hd hl hp (fun ls' hl' => b3 p l e R s m args below meth c H locs cells slots Q ls' hX hl' hW hS hlo hc hs kk)
          · split at hq
            · rename_i q1 hp
              obtain ⟨len, st2, sh2, I2, P2, nx2, kx2⟩ := q1
              cases hq
              obtain ⟨a1, a2⟩ := zq_heap_le hp
              refine ⟨Nat.le_trans a1 b1, Nat.le_trans a2 b2, ?_⟩
              intro p l e R s m args below meth c H locs cells slots Q ls hX hl hW hS hlo hc hs kk
              refine zq_heap_W (n := 0) (L := []) hX hd hl.1 (Nat.succ_pos _) hW hS hlo hp (by omega) (by omega) ?_
              intro H1 locs1 hW1 hS1
              refine b3 p l e R s m args below meth c H1 locs1 _ _ Q ls hX hl hW1 hS1 hlo (by omega) (by omega) ?_
              rw [show cells + (nx1 - nx) + (nx' - nx1) = cells + (nx' - nx) by omega, show slots + (kx1 - kx) + (kx' - kx1) = slots + (kx' - kx) by omega]
              exact kk
            · cases hq
        · cases h
theorem zq_sound (n : Nat) : zq_Snd D dA lo (zq_run n) := by
  induction n with
  | zero =>
    intro d i pc L st sh I P nx kx v sh' I' P' nx' kx' h
    cases h
  | succ n ih => exact zq_body_snd ih
theorem zq_soundF : zq_Snd D dA lo (fun d i pc L st sh I P nx kx => zq_F d i pc L st sh I P nx kx) := by
  intro d i pc L st sh I P nx kx v sh' I' P' nx' kx' h
  obtain ⟨n, hn⟩ := zq_F_ex.mp h
  exact zq_sound n _ _ _ _ _ _ _ _ _ _ _ _ _ _ _ _ hn
end ZQC
