/-! one rule an instruction that touches memory; the others are by rfl -/
theorem zq_rf_some (a : Nat) : va_rf (some a) = .ref a := rfl
theorem zq_rf_none : va_rf none = .null := rfl
section ZQE
variable {d i pc nx kx : Nat} {L : zq_L} {st : List Value} {sh : zq_S} {I : zq_I} {P : zq_P}
theorem zq_r_int {n : Int} {v : Int32} (hi : zq_ins i pc = some (.iconst n)) (hv : Int32.ofInt n = v) : zq_F d i pc L st sh I P nx kx = zq_F d i (pc + 1) L (.int v :: st) sh I P nx kx := by
  subst hv
  exact zq_F_next hi rfl rfl rfl
theorem zq_r_bip {n : Int} {v : Int32} (hi : zq_ins i pc = some (.bipush n)) (hv : (Int8.ofInt n).toInt32 = v) : zq_F d i pc L st sh I P nx kx = zq_F d i (pc + 2) L (.int v :: st) sh I P nx kx := by
  subst hv
  exact zq_F_next hi rfl rfl rfl
theorem zq_r_sip {n : Int} {v : Int32} (hi : zq_ins i pc = some (.sipush n)) (hv : (Int16.ofInt n).toInt32 = v) : zq_F d i pc L st sh I P nx kx = zq_F d i (pc + 3) L (.int v :: st) sh I P nx kx := by
  subst hv
  exact zq_F_next hi rfl rfl rfl
theorem zq_r_inc {n : Int} {v : Int32} {k : Nat} {x : Int32} {L' : zq_L} (hi : zq_ins i pc = some (.iinc k n)) (hv : Int32.ofInt n = v) (hL : L[k]? = some (some (.int x))) (hL' : L.set k (some (.int (x + v))) = L') : zq_F d i pc L st sh I P nx kx = zq_F d i (pc + 3) L' st sh I P nx kx := by
  subst hv
  subst hL'
  exact zq_F_next hi rfl rfl (by simp [zq_next, zq_pure, zq_inc, zq_ok, hL])
theorem zq_r_if1 {c : Jvm.ClassFile.Cond} {off : Int} {x : Int32} {tgt : Nat} {p : Prop} [Decidable p] (hi : zq_ins i pc = some (.ifCond c off)) (ht : (pc : Int) + off = (tgt : Int)) (hc : zq_cmp c x 0 = true ↔ p) : zq_F d i pc L (.int x :: st) sh I P nx kx = if p then zq_F d i tgt L st sh I P nx kx else zq_F d i (pc + 3) L st sh I P nx kx := by
  have h0 : (0 : Int) ≤ (pc : Int) + off := by omega
  have h1 : ((pc : Int) + off).toNat = tgt := by omega
  split
  · rename_i hp
    exact zq_F_next hi rfl rfl (by simp [zq_next, zq_pure, zq_if1, zq_ok, h0, h1, hc.mpr hp])
  · rename_i hp
    have hf : zq_cmp c x 0 = false := Bool.eq_false_iff.mpr (fun z => hp (hc.mp z))
    exact zq_F_next hi rfl rfl (by simp [zq_next, zq_pure, zq_if1, zq_ok, h0, hf])
theorem zq_r_if2 {c : Jvm.ClassFile.Cond} {off : Int} {x y : Int32} {tgt : Nat} {p : Prop} [Decidable p] (hi : zq_ins i pc = some (.if_icmp c off)) (ht : (pc : Int) + off = (tgt : Int)) (hc : zq_cmp c x y = true ↔ p) : zq_F d i pc L (.int y :: .int x :: st) sh I P nx kx = if p then zq_F d i tgt L st sh I P nx kx else zq_F d i (pc + 3) L st sh I P nx kx := by
  have h0 : (0 : Int) ≤ (pc : Int) + off := by omega
  have h1 : ((pc : Int) + off).toNat = tgt := by omega
  split
  · rename_i hp
    exact zq_F_next hi rfl rfl (by simp [zq_next, zq_pure, zq_if2, zq_ok, h0, h1, hc.mpr hp])
  · rename_i hp
    have hf : zq_cmp c x y = false := Bool.eq_false_iff.mpr (fun z => hp (hc.mp z))
    exact zq_F_next hi rfl rfl (by simp [zq_next, zq_pure, zq_if2, zq_ok, h0, hf])
theorem zq_c_eq (x y : Int32) : zq_cmp .eq x y = true ↔ x = y := decide_eq_true_iff
theorem zq_c_ne (x y : Int32) : zq_cmp .ne x y = true ↔ ¬ x = y := decide_eq_true_iff
theorem zq_c_lt (x y : Int32) : zq_cmp .lt x y = true ↔ x < y := decide_eq_true_iff
theorem zq_c_ge (x y : Int32) : zq_cmp .ge x y = true ↔ y ≤ x := decide_eq_true_iff
theorem zq_c_gt (x y : Int32) : zq_cmp .gt x y = true ↔ y < x := decide_eq_true_iff
theorem zq_c_le (x y : Int32) : zq_cmp .le x y = true ↔ x ≤ y := decide_eq_true_iff
theorem zq_r_goto {off : Int} {tgt : Nat} (hi : zq_ins i pc = some (.goto off)) (ht : (pc : Int) + off = (tgt : Int)) : zq_F d i pc L st sh I P nx kx = zq_F d i tgt L st sh I P nx kx := by
  have h0 : (0 : Int) ≤ (pc : Int) + off := by omega
  have h1 : ((pc : Int) + off).toNat = tgt := by omega
  exact zq_F_next hi rfl rfl (by simp [zq_next, zq_pure, zq_to, zq_ok, h0, h1])
theorem zq_r_ifn_n {off : Int} {tgt : Nat} (hi : zq_ins i pc = some (.ifnull off)) (ht : (pc : Int) + off = (tgt : Int)) : zq_F d i pc L (.null :: st) sh I P nx kx = zq_F d i tgt L st sh I P nx kx := by
  have h0 : (0 : Int) ≤ (pc : Int) + off := by omega
  have h1 : ((pc : Int) + off).toNat = tgt := by omega
  exact zq_F_next hi rfl rfl (by simp [zq_next, zq_pure, zq_ifn, zq_to, zq_ok, h0, h1])
theorem zq_r_ifnn_r {off : Int} {a tgt : Nat} (hi : zq_ins i pc = some (.ifnonnull off)) (ht : (pc : Int) + off = (tgt : Int)) : zq_F d i pc L (.ref a :: st) sh I P nx kx = zq_F d i tgt L st sh I P nx kx := by
  have h0 : (0 : Int) ≤ (pc : Int) + off := by omega
  have h1 : ((pc : Int) + off).toNat = tgt := by omega
  exact zq_F_next hi rfl rfl (by simp [zq_next, zq_pure, zq_ifnn, zq_to, zq_ok, h0, h1])
theorem zq_r_div {x y : Int32} (hi : zq_ins i pc = some .idiv) (hy : ¬ y = 0) : zq_F d i pc L (.int y :: .int x :: st) sh I P nx kx = zq_F d i (pc + 1) L (.int (x / y) :: st) sh I P nx kx :=
  zq_F_next hi rfl rfl (by simp [zq_next, zq_pure, zq_div, zq_ok, hy])
theorem zq_r_getI {idx ci k a t : Nat} (hi : zq_ins i pc = some (.getfield idx)) (hf : zq_fld i idx = some (ci, k)) (hp : zq_ptr ci k = false) (ht : 100 + ci = t) (h : (sh a).1 = t) : zq_F d i pc L (.ref a :: st) sh I P nx kx = zq_F d i (pc + 3) L (.int (I a k) :: st) sh I P nx kx := by
  subst ht
  exact zq_F_next hi rfl rfl (by simp [zq_next, zq_pure, zq_heap, zq_getf, hf, hp, h])
theorem zq_r_getP {idx ci k a t : Nat} (hi : zq_ins i pc = some (.getfield idx)) (hf : zq_fld i idx = some (ci, k)) (hp : zq_ptr ci k = true) (ht : 100 + ci = t) (h : (sh a).1 = t) : zq_F d i pc L (.ref a :: st) sh I P nx kx = zq_F d i (pc + 3) L (va_rf (P a k) :: st) sh I P nx kx := by
  subst ht
  exact zq_F_next hi rfl rfl (by simp [zq_next, zq_pure, zq_heap, zq_getf, hf, hp, h])
theorem zq_r_putI {idx ci k a t : Nat} {x : Int32} (hi : zq_ins i pc = some (.putfield idx)) (hf : zq_fld i idx = some (ci, k)) (hp : zq_ptr ci k = false) (hk : zq_pok i idx = true) (ht : 100 + ci = t) (h : (sh a).1 = t) : zq_F d i pc L (.int x :: .ref a :: st) sh I P nx kx = zq_F d i (pc + 3) L st sh (zq_up I a k x) P nx kx := by
  subst ht
  exact zq_F_next hi rfl rfl (by simp [zq_next, zq_pure, zq_heap, zq_putf, hf, hp, hk, h])
theorem zq_r_putP {idx ci k a t y : Nat} (hi : zq_ins i pc = some (.putfield idx)) (hf : zq_fld i idx = some (ci, k)) (hp : zq_ptr ci k = true) (hk : zq_pok i idx = true) (ht : 100 + ci = t) (h : (sh a).1 = t) : zq_F d i pc L (.ref y :: .ref a :: st) sh I P nx kx = zq_F d i (pc + 3) L st sh I (zq_up P a k (some y)) nx kx := by
  subst ht
  exact zq_F_next hi rfl rfl (by simp [zq_next, zq_pure, zq_heap, zq_putf, hf, hp, hk, h])
theorem zq_r_iald {a : Nat} {j : Int32} (hi : zq_ins i pc = some .iaload) (h : (sh a).1 = 2 ∨ (sh a).1 = 1) (h0 : 0 ≤ j) (h1 : j.toNatClampNeg < (sh a).2) : zq_F d i pc L (.int j :: .ref a :: st) sh I P nx kx = zq_F d i (pc + 1) L (.int (I a j.toNatClampNeg) :: st) sh I P nx kx :=
  zq_F_next hi rfl rfl (by simp [zq_next, zq_pure, zq_heap, zq_iald, h.symm, h0, h1])
theorem zq_r_bald {a : Nat} {j : Int32} (hi : zq_ins i pc = some .baload) (h : (sh a).1 = 3) (h0 : 0 ≤ j) (h1 : j.toNatClampNeg < (sh a).2) : zq_F d i pc L (.int j :: .ref a :: st) sh I P nx kx = zq_F d i (pc + 1) L (.int (I a j.toNatClampNeg) :: st) sh I P nx kx :=
  zq_F_next hi rfl rfl (by simp [zq_next, zq_pure, zq_heap, zq_bald, h, h0, h1])
theorem zq_r_aald {a : Nat} {j : Int32} (hi : zq_ins i pc = some .aaload) (h : 50 ≤ (sh a).1) (h2 : (sh a).1 < 100) (h0 : 0 ≤ j) (h1 : j.toNatClampNeg < (sh a).2) : zq_F d i pc L (.int j :: .ref a :: st) sh I P nx kx = zq_F d i (pc + 1) L (va_rf (P a j.toNatClampNeg) :: st) sh I P nx kx :=
  zq_F_next hi rfl rfl (by simp [zq_next, zq_pure, zq_heap, zq_aald, h, h2, h0, h1])
theorem zq_r_iast {a : Nat} {j x : Int32} (hi : zq_ins i pc = some .iastore) (h : (sh a).1 = 2) (h0 : 0 ≤ j) (h1 : j.toNatClampNeg < (sh a).2) : zq_F d i pc L (.int x :: .int j :: .ref a :: st) sh I P nx kx = zq_F d i (pc + 1) L st sh (zq_up I a j.toNatClampNeg x) P nx kx :=
  zq_F_next hi rfl rfl (by simp [zq_next, zq_pure, zq_heap, zq_iast, h, h0, h1])
theorem zq_r_bast {a : Nat} {j x : Int32} (hi : zq_ins i pc = some .bastore) (h : (sh a).1 = 3) (h0 : 0 ≤ j) (h1 : j.toNatClampNeg < (sh a).2) : zq_F d i pc L (.int x :: .int j :: .ref a :: st) sh I P nx kx = zq_F d i (pc + 1) L st sh (zq_up I a j.toNatClampNeg (x &&& 1)) P nx kx :=
  zq_F_next hi rfl rfl (by simp [zq_next, zq_pure, zq_heap, zq_bast, h, h0, h1])
theorem zq_r_aast {a y : Nat} {j : Int32} (hi : zq_ins i pc = some .aastore) (h : 50 ≤ (sh a).1) (h2 : (sh a).1 < 100) (hy : (sh y).1 = (sh a).1 + 50) (h0 : 0 ≤ j) (h1 : j.toNatClampNeg < (sh a).2) : zq_F d i pc L (.ref y :: .int j :: .ref a :: st) sh I P nx kx = zq_F d i (pc + 1) L st sh I (zq_up P a j.toNatClampNeg (some y)) nx kx :=
  zq_F_next hi rfl rfl (by simp [zq_next, zq_pure, zq_heap, zq_aast, h, h2, hy, h0, h1])
theorem zq_r_alen {a : Nat} (hi : zq_ins i pc = some .arraylength) (h : 0 < (sh a).1) (h2 : (sh a).1 < 100) : zq_F d i pc L (.ref a :: st) sh I P nx kx = zq_F d i (pc + 1) L (.int (nI (sh a).2) :: st) sh I P nx kx :=
  zq_F_next hi rfl rfl (by simp [zq_next, zq_pure, zq_heap, zq_alen, h, h2, nI])
theorem zq_r_new {idx ci t f : Nat} (hi : zq_ins i pc = some (.new idx)) (hf : zq_cls i idx = some ci) (ht : 100 + ci = t) (hn : zq_nf ci = f) : zq_F d i pc L st sh I P nx kx = zq_F d i (pc + 3) L (.ref nx :: st) (zq_us sh nx (t, 0)) (zq_row I nx 0) (zq_row P nx none) (nx + 1) (kx + f) := by
  subst ht
  subst hn
  exact zq_F_next hi rfl rfl (by simp [zq_next, zq_pure, zq_heap, zq_new, hf])
theorem zq_r_newi {n : Int32} (hi : zq_ins i pc = some (.newarray .int)) (h0 : 0 ≤ n) (h1 : n.toNatClampNeg ≤ 1000000) : zq_F d i pc L (.int n :: st) sh I P nx kx = zq_F d i (pc + 2) L (.ref nx :: st) (zq_us sh nx (2, n.toNatClampNeg)) (zq_row I nx 0) P (nx + 1) (kx + n.toNatClampNeg) :=
  zq_F_next hi rfl rfl (by simp [zq_next, zq_pure, zq_heap, zq_newa, h0, h1])
theorem zq_r_newz {n : Int32} (hi : zq_ins i pc = some (.newarray .boolean)) (h0 : 0 ≤ n) (h1 : n.toNatClampNeg ≤ 1000000) : zq_F d i pc L (.int n :: st) sh I P nx kx = zq_F d i (pc + 2) L (.ref nx :: st) (zq_us sh nx (3, n.toNatClampNeg)) (zq_row I nx 0) P (nx + 1) (kx + n.toNatClampNeg) :=
  zq_F_next hi rfl rfl (by simp [zq_next, zq_pure, zq_heap, zq_newa, h0, h1])
theorem zq_r_anew {idx ci t : Nat} {n : Int32} (hi : zq_ins i pc = some (.anewarray idx)) (hf : zq_acl i idx = some ci) (ht : 50 + ci = t) (h0 : 0 ≤ n) (h1 : n.toNatClampNeg ≤ 1000000) : zq_F d i pc L (.int n :: st) sh I P nx kx = zq_F d i (pc + 3) L (.ref nx :: st) (zq_us sh nx (t, n.toNatClampNeg)) I (zq_row P nx none) (nx + 1) (kx + n.toNatClampNeg) := by
  subst ht
  exact zq_F_next hi rfl rfl (by simp [zq_next, zq_pure, zq_heap, zq_anew, hf, h0, h1])
theorem zq_r_oini {idx a : Nat} (hi : zq_ins i pc = some (.invokespecial idx)) (hm : zq_mth i (.invokespecial idx) = none) (hf : zq_obj i idx = true) (hs : (st.map fun v => v.category).sum ≤ 8) : zq_F d i pc L (.ref a :: st) sh I P nx kx = zq_F d i (pc + 3) L st sh I P nx kx :=
  zq_F_next hi hm rfl (by simp [zq_next, zq_pure, zq_heap, zq_oini, hf, hs])
theorem zq_r_reti {x : Int32} (hi : zq_ins i pc = some .ireturn) (hr : zq_ret i = some .int) : zq_F d i pc L [.int x] sh I P nx kx = some (some (.int x), sh, I, P, nx, kx) := zq_F_ret hi rfl (by simp [zq_rt, zq_rti, hr])
theorem zq_r_retz {x : Int32} (hi : zq_ins i pc = some .ireturn) (hr : zq_ret i = some .boolean) (h : x = 0 ∨ x = 1) : zq_F d i pc L [.int x] sh I P nx kx = some (some (.int x), sh, I, P, nx, kx) := zq_F_ret hi rfl (by simp [zq_rt, zq_rti, hr, h])
theorem zq_r_reta {w : Value} {C : String} (hi : zq_ins i pc = some .areturn) (hr : zq_ret i = some (.object C)) (h : zq_ref w = true) : zq_F d i pc L [w] sh I P nx kx = some (some w, sh, I, P, nx, kx) := zq_F_ret hi rfl (by simp [zq_rt, zq_rta, hr, h])
theorem zq_r_retv (hi : zq_ins i pc = some .return_) (hr : zq_ret i = none) : zq_F d i pc L [] sh I P nx kx = some (none, sh, I, P, nx, kx) := zq_F_ret hi rfl (by simp [zq_rt, zq_rtv, hr])
theorem zq_r_tab {dflt lo hi0 : Int} {offs : Array Int} {x : Int32} {tgt : Nat} (hi : zq_ins i pc = some (.tableswitch dflt lo hi0 offs)) (h : (if x.toInt < lo ∨ hi0 < x.toInt then some ((pc : Int) + dflt) else (offs[(x.toInt - lo).toNat]?).map (fun o => (pc : Int) + o)) = some (tgt : Int)) : zq_F d i pc L (.int x :: st) sh I P nx kx = zq_F d i tgt L st sh I P nx kx := by
  refine zq_F_next hi rfl rfl ?_
  have key : zq_tab dflt lo hi0 offs pc L (.int x :: st) = some (tgt, L, st) := by
    unfold zq_tab
    dsimp only
    split at h
    · rename_i hc
      rw [if_pos hc]
      injection h with h
      simp [zq_to, zq_ok, h]
    · rename_i hc
      rw [if_neg hc]
      obtain ⟨o, ho, h⟩ := Option.map_eq_some_iff.mp h
      rw [ho]
      simp [zq_to, zq_ok, h]
  simp [zq_next, zq_pure, key]
end ZQE
theorem zq_sk_of {st : List Value} (h : st.length ≤ 4) : (st.map fun v => v.category).sum ≤ 8 := by
  have key : ∀ l : List Value, (l.map fun v => v.category).sum ≤ 2 * l.length := by
    intro l
    induction l with
    | nil => exact Nat.le_refl 0
    | cons a l ih =>
      have : a.category ≤ 2 := by cases a <;> simp [Value.category]
      simp only [List.map_cons, List.sum_cons, List.length_cons]
      omega
  have := key st
  omega
theorem zq_ag {kd j n : Nat} {as rest : List Value} {sh : zq_S} (hn : zq_na j = n) (hl : as.length = n) (hc : as.all (fun v => v.category == 1) = true) (hs : rest.length ≤ 4) (hr : kd = 2 ∨ ∃ b, as[n - 1]? = some (.ref b) ∧ 0 < n ∧ (kd = 1 ∨ (sh b).1 = 100 + zq_oc j)) : zq_arg kd j (as ++ rest) sh = true := by
  subst hn
  have h1 : (as ++ rest).drop (zq_na j) = rest := by rw [← hl, List.drop_left]
  have h2 : (as ++ rest).take (zq_na j) = as := by rw [← hl, List.take_left]
  simp only [zq_arg, h1, h2, hc, Bool.and_eq_true, decide_eq_true_eq, Bool.or_eq_true, beq_iff_eq, true_and]
  refine ⟨by rw [List.length_append]; omega, zq_sk_of hs, ?_⟩
  rcases hr with hr | ⟨b, hb, h0, hr⟩
  · exact Or.inl hr
  · right
    unfold zq_rcv
    rw [List.getElem?_append_left (by omega), hb]
    rcases hr with hr | hr
    · simp [hr]
    · simp [hr]
theorem zq_nn {j : Nat} (h : j < 2147483648) : (0 : Int32) ≤ nI j ∧ (nI j).toNatClampNeg = j := ⟨nI_pos' h, nI_clamp h⟩
section ZQN
variable {d i pc nx kx : Nat} {L : zq_L} {st : List Value} {sh : zq_S} {I : zq_I} {P : zq_P}
theorem zq_n_iald {a j : Nat} (hi : zq_ins i pc = some .iaload) (h : (sh a).1 = 2 ∨ (sh a).1 = 1) (h1 : j < (sh a).2) (h2 : j < 2147483648) : zq_F d i pc L (.int (nI j) :: .ref a :: st) sh I P nx kx = zq_F d i (pc + 1) L (.int (I a j) :: st) sh I P nx kx := by
  have := zq_r_iald (d := d) (L := L) (st := st) (I := I) (P := P) (nx := nx) (kx := kx) hi h (zq_nn h2).1 (by rw [(zq_nn h2).2]; exact h1)
  rwa [(zq_nn h2).2] at this
theorem zq_n_bald {a j : Nat} (hi : zq_ins i pc = some .baload) (h : (sh a).1 = 3) (h1 : j < (sh a).2) (h2 : j < 2147483648) : zq_F d i pc L (.int (nI j) :: .ref a :: st) sh I P nx kx = zq_F d i (pc + 1) L (.int (I a j) :: st) sh I P nx kx := by
  have := zq_r_bald (d := d) (L := L) (st := st) (I := I) (P := P) (nx := nx) (kx := kx) hi h (zq_nn h2).1 (by rw [(zq_nn h2).2]; exact h1)
  rwa [(zq_nn h2).2] at this
theorem zq_n_aald {a j : Nat} (hi : zq_ins i pc = some .aaload) (h : 50 ≤ (sh a).1) (h3 : (sh a).1 < 100) (h1 : j < (sh a).2) (h2 : j < 2147483648) : zq_F d i pc L (.int (nI j) :: .ref a :: st) sh I P nx kx = zq_F d i (pc + 1) L (va_rf (P a j) :: st) sh I P nx kx := by
  have := zq_r_aald (d := d) (L := L) (st := st) (I := I) (P := P) (nx := nx) (kx := kx) hi h h3 (zq_nn h2).1 (by rw [(zq_nn h2).2]; exact h1)
  rwa [(zq_nn h2).2] at this
theorem zq_n_iast {a j : Nat} {x : Int32} (hi : zq_ins i pc = some .iastore) (h : (sh a).1 = 2) (h1 : j < (sh a).2) (h2 : j < 2147483648) : zq_F d i pc L (.int x :: .int (nI j) :: .ref a :: st) sh I P nx kx = zq_F d i (pc + 1) L st sh (zq_up I a j x) P nx kx := by
  have := zq_r_iast (d := d) (L := L) (st := st) (I := I) (P := P) (nx := nx) (kx := kx) (x := x) hi h (zq_nn h2).1 (by rw [(zq_nn h2).2]; exact h1)
  rwa [(zq_nn h2).2] at this
theorem zq_n_bast {a j : Nat} {x : Int32} (hi : zq_ins i pc = some .bastore) (h : (sh a).1 = 3) (h1 : j < (sh a).2) (h2 : j < 2147483648) : zq_F d i pc L (.int x :: .int (nI j) :: .ref a :: st) sh I P nx kx = zq_F d i (pc + 1) L st sh (zq_up I a j (x &&& 1)) P nx kx := by
  have := zq_r_bast (d := d) (L := L) (st := st) (I := I) (P := P) (nx := nx) (kx := kx) (x := x) hi h (zq_nn h2).1 (by rw [(zq_nn h2).2]; exact h1)
  rwa [(zq_nn h2).2] at this
theorem zq_n_aast {a j y : Nat} (hi : zq_ins i pc = some .aastore) (h : 50 ≤ (sh a).1) (h3 : (sh a).1 < 100) (hy : (sh y).1 = (sh a).1 + 50) (h1 : j < (sh a).2) (h2 : j < 2147483648) : zq_F d i pc L (.ref y :: .int (nI j) :: .ref a :: st) sh I P nx kx = zq_F d i (pc + 1) L st sh I (zq_up P a j (some y)) nx kx := by
  have := zq_r_aast (d := d) (L := L) (st := st) (I := I) (P := P) (nx := nx) (kx := kx) hi h h3 hy (zq_nn h2).1 (by rw [(zq_nn h2).2]; exact h1)
  rwa [(zq_nn h2).2] at this
theorem zq_n_newi {n : Nat} (hi : zq_ins i pc = some (.newarray .int)) (h : n ≤ 1000000) : zq_F d i pc L (.int (nI n) :: st) sh I P nx kx = zq_F d i (pc + 2) L (.ref nx :: st) (zq_us sh nx (2, n)) (zq_row I nx 0) P (nx + 1) (kx + n) := by
  have h2 : n < 2147483648 := by omega
  have := zq_r_newi (d := d) (L := L) (st := st) (sh := sh) (I := I) (P := P) (nx := nx) (kx := kx) hi (zq_nn h2).1 (by rw [(zq_nn h2).2]; exact h)
  rwa [(zq_nn h2).2] at this
theorem zq_n_newz {n : Nat} (hi : zq_ins i pc = some (.newarray .boolean)) (h : n ≤ 1000000) : zq_F d i pc L (.int (nI n) :: st) sh I P nx kx = zq_F d i (pc + 2) L (.ref nx :: st) (zq_us sh nx (3, n)) (zq_row I nx 0) P (nx + 1) (kx + n) := by
  have h2 : n < 2147483648 := by omega
  have := zq_r_newz (d := d) (L := L) (st := st) (sh := sh) (I := I) (P := P) (nx := nx) (kx := kx) hi (zq_nn h2).1 (by rw [(zq_nn h2).2]; exact h)
  rwa [(zq_nn h2).2] at this
theorem zq_n_anew {idx ci t n : Nat} (hi : zq_ins i pc = some (.anewarray idx)) (hf : zq_acl i idx = some ci) (ht : 50 + ci = t) (h : n ≤ 1000000) : zq_F d i pc L (.int (nI n) :: st) sh I P nx kx = zq_F d i (pc + 3) L (.ref nx :: st) (zq_us sh nx (t, n)) I (zq_row P nx none) (nx + 1) (kx + n) := by
  have h2 : n < 2147483648 := by omega
  have := zq_r_anew (d := d) (L := L) (st := st) (sh := sh) (I := I) (P := P) (nx := nx) (kx := kx) hi hf ht (zq_nn h2).1 (by rw [(zq_nn h2).2]; exact h)
  rwa [(zq_nn h2).2] at this
end ZQN
noncomputable def zq_b (p : Prop) : Int32 := @ite Int32 p (Classical.propDecidable p) (nI 1) (nI 0)
theorem zq_b_t {p : Prop} (h : p) : zq_b p = nI 1 := @if_pos p (Classical.propDecidable p) h Int32 (nI 1) (nI 0)
theorem zq_b_f {p : Prop} (h : ¬ p) : zq_b p = nI 0 := @if_neg p (Classical.propDecidable p) h Int32 (nI 1) (nI 0)
theorem zq_b_01 (p : Prop) : zq_b p = 0 ∨ zq_b p = 1 := by
  rcases Classical.em p with h | h
  · right; rw [zq_b_t h]; rfl
  · left; rw [zq_b_f h]; rfl
theorem zq_b_eq0 {p : Prop} : (zq_b p = nI 0) = ¬ p := by
  rcases Classical.em p with h | h
  · rw [zq_b_t h]
    simp only [h, not_true, eq_iff_iff, iff_false]
    decide
  · rw [zq_b_f h]
    simp only [h, not_false_eq_true]
theorem zq_b_congr {p q : Prop} (h : p ↔ q) : zq_b p = zq_b q := by rw [propext h]
def zq_o (o : Option Nat) : Int32 := match o with
  | none => -1
  | some i => nI i
theorem zq_m1_lt : ((-1 : Int32) < nI 0) = True := by decide
theorem zq_m1_eq (n : Nat) (h : n < 2147483648) : ((-1 : Int32) = nI n) = False := by
  simp only [eq_iff_iff, iff_false]
  intro q
  have := nI_pos' (n := n) h
  rw [← q] at this
  exact absurd this (by decide)
theorem zq_eq_m1 (n : Nat) (h : n < 2147483648) : (nI n = (-1 : Int32)) = False := by
  simp only [eq_iff_iff, iff_false]
  intro q
  have := nI_pos' (n := n) h
  rw [q] at this
  exact absurd this (by decide)
theorem zq_up_s {α : Type} {f : Nat → Nat → α} {a j : Nat} {v : α} : zq_up f a j v a j = v := by simp [zq_up]
theorem zq_up_o {α : Type} {f : Nat → Nat → α} {a j b k : Nat} {v : α} (h : b ≠ a) : zq_up f a j v b k = f b k := by simp [zq_up, h]
theorem zq_up_k {α : Type} {f : Nat → Nat → α} {a j b k : Nat} {v : α} (h : k ≠ j) : zq_up f a j v b k = f b k := by simp [zq_up, h]
theorem zq_row_s {α : Type} {f : Nat → Nat → α} {a k : Nat} {v : α} : zq_row f a v a k = v := by simp [zq_row]
theorem zq_row_o {α : Type} {f : Nat → Nat → α} {a b k : Nat} {v : α} (h : b ≠ a) : zq_row f a v b k = f b k := by simp [zq_row, h]
theorem zq_lt {a b : Nat} (ha : a < 2147483648) (hb : b < 2147483648) : (nI a < nI b) = (a < b) := propext (nI_ltI ha hb)
theorem zq_le {a b : Nat} (ha : a < 2147483648) (hb : b < 2147483648) : (nI a ≤ nI b) = (a ≤ b) := propext (nI_leI ha hb)
theorem zq_eq {a b : Nat} (ha : a < 2147483648) (hb : b < 2147483648) : (nI a = nI b) = (a = b) := propext (nI_eq ha hb)
theorem zq_ix (x : Int32) {n : Nat} (hn : n < 2147483648) : x < nI 0 ∨ nI n ≤ x ∨ ∃ j : Nat, j < n ∧ x = nI j := by
  rw [nI_0]
  exact pk_ix x hn
theorem zq_on_lt : (zq_o none < nI 0) = True := by decide
theorem zq_os (i : Nat) : zq_o (some i) = nI i := rfl
theorem zq_on : zq_o none = -1 := rfl
