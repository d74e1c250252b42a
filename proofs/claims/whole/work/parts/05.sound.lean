/-! SOUNDNESS: what the pure machine answers, the machine does -/
/-- the locals -/
def zq_l (ls : Array Slot) (L : zq_L) (n : Nat) : Prop := ls.size = n ∧ L.length = n ∧ lv_wf ls ∧ ∀ (k : Nat) (w : Value), L[k]? = some (some w) → ls[k]? = some (.val w) ∧ w.category = 1
def zq_prs (L : zq_L) : List (Nat × Value) := (List.range L.length).filterMap (fun k => match L[k]? with
  | some (some w) => some (k, w)
  | _ => none)
theorem zq_prs_mem {L : zq_L} {k : Nat} {w : Value} : (k, w) ∈ zq_prs L ↔ L[k]? = some (some w) := by
  unfold zq_prs
  rw [List.mem_filterMap]
  constructor
  · rintro ⟨j, -, h⟩
    split at h
    · rename_i w' hw
      cases h
      exact hw
    · cases h
  · intro h
    refine ⟨k, List.mem_range.mpr (List.getElem?_eq_some_iff.mp h).1, ?_⟩
    rw [h]
theorem zq_l.has {ls : Array Slot} {L : zq_L} {n : Nat} (h : zq_l ls L n) : lv_has ls n (zq_prs L) :=
  ⟨h.1, h.2.2.1, fun q hq => (h.2.2.2 q.1 q.2 (zq_prs_mem.mp hq)).1⟩
theorem zq_l.stored {ls ls' : Array Slot} {L : zq_L} {n k : Nat} {w : Value} (h : zq_l ls L n) (hk : k < n) (hw : w.category = 1) (hs : lv_has ls' n ((k, w) :: (zq_prs L).filter (fun q => !(q.1 == k) && !(q.1 + 1 == k && q.2.category == 2)))) : zq_l ls' (L.set k (some w)) n := by
  refine ⟨hs.1, by rw [List.length_set]; exact h.2.1, hs.2.1, fun j v hj => ?_⟩
  by_cases hjk : j = k
  · subst hjk
    rw [List.getElem?_set_self (by rw [h.2.1]; exact hk)] at hj
    cases hj
    exact ⟨hs.2.2 (j, w) List.mem_cons_self, hw⟩
  · rw [List.getElem?_set_ne (Ne.symm hjk)] at hj
    have hc := (h.2.2.2 j v hj).2
    refine ⟨hs.2.2 (j, v) (List.mem_cons_of_mem _ (List.mem_filter.mpr ⟨zq_prs_mem.mpr hj, ?_⟩)), hc⟩
    simp [hjk, hc]
theorem zq_ref_cases {w : Value} (h : zq_ref w = true) : w = .null ∨ ∃ a, w = .ref a := by
  cases w <;> first | exact Or.inl rfl | exact Or.inr ⟨_, rfl⟩ | (simp [zq_ref] at h)
theorem zq_ref_cat {w : Value} (h : zq_ref w = true) : w.category = 1 := by
  rcases zq_ref_cases h with rfl | ⟨a, rfl⟩ <;> rfl
/-! what a pure step needs, read off its answer -/
theorem zq_ok_inv {pc pc' : Nat} {L L' : zq_L} {st st' : List Value} (h : zq_ok pc L st = some (pc', L', st')) : pc' = pc ∧ L' = L ∧ st' = st := by
  cases h
  exact ⟨rfl, rfl, rfl⟩
theorem zq_ldI_inv {v pc pc' : Nat} {L L' : zq_L} {st st' : List Value} (h : zq_ldI v pc L st = some (pc', L', st')) : ∃ x : Int32, L[v]? = some (some (.int x)) ∧ pc' = pc ∧ L' = L ∧ st' = .int x :: st := by
  unfold zq_ldI at h
  split at h
  · rename_i x hx
    obtain ⟨h1, h2, h3⟩ := zq_ok_inv h
    exact ⟨x, hx, h1, h2, h3⟩
  · cases h
theorem zq_ldA_inv {v pc pc' : Nat} {L L' : zq_L} {st st' : List Value} (h : zq_ldA v pc L st = some (pc', L', st')) : ∃ w : Value, L[v]? = some (some w) ∧ zq_ref w = true ∧ pc' = pc ∧ L' = L ∧ st' = w :: st := by
  unfold zq_ldA at h
  split at h
  · rename_i w hw
    split at h
    · rename_i hr
      obtain ⟨h1, h2, h3⟩ := zq_ok_inv h
      exact ⟨w, hw, hr, h1, h2, h3⟩
    · cases h
  · cases h
theorem zq_stI_inv {v pc pc' : Nat} {L L' : zq_L} {st st' : List Value} (h : zq_stI v pc L st = some (pc', L', st')) : ∃ (x : Int32) (r : List Value), st = .int x :: r ∧ v < L.length ∧ pc' = pc ∧ L' = L.set v (some (.int x)) ∧ st' = r := by
  unfold zq_stI at h
  split at h
  · rename_i x r
    split at h
    · rename_i hr
      obtain ⟨h1, h2, h3⟩ := zq_ok_inv h
      exact ⟨x, r, rfl, hr, h1, h2, h3⟩
    · cases h
  · cases h
theorem zq_stA_inv {v pc pc' : Nat} {L L' : zq_L} {st st' : List Value} (h : zq_stA v pc L st = some (pc', L', st')) : ∃ (w : Value) (r : List Value), st = w :: r ∧ zq_ref w = true ∧ v < L.length ∧ pc' = pc ∧ L' = L.set v (some w) ∧ st' = r := by
  unfold zq_stA at h
  split at h
  · rename_i w r
    split at h
    · rename_i hr
      obtain ⟨h1, h2, h3⟩ := zq_ok_inv h
      exact ⟨w, r, rfl, hr.1, hr.2, h1, h2, h3⟩
    · cases h
  · cases h
theorem zq_inc_inv {v pc pc' : Nat} {n : Int} {L L' : zq_L} {st st' : List Value} (h : zq_inc v n pc L st = some (pc', L', st')) : ∃ x : Int32, L[v]? = some (some (.int x)) ∧ pc' = pc ∧ L' = L.set v (some (.int (x + Int32.ofInt n))) ∧ st' = st := by
  unfold zq_inc at h
  split at h
  · rename_i x hx
    obtain ⟨h1, h2, h3⟩ := zq_ok_inv h
    exact ⟨x, hx, h1, h2, h3⟩
  · cases h
theorem zq_bin_inv {f : Int32 → Int32 → Int32} {pc pc' : Nat} {L L' : zq_L} {st st' : List Value} (h : zq_bin f pc L st = some (pc', L', st')) : ∃ (x y : Int32) (r : List Value), st = .int y :: .int x :: r ∧ pc' = pc ∧ L' = L ∧ st' = .int (f x y) :: r := by
  unfold zq_bin at h
  split at h
  · rename_i y x r
    obtain ⟨h1, h2, h3⟩ := zq_ok_inv h
    exact ⟨x, y, r, rfl, h1, h2, h3⟩
  · cases h
theorem zq_un_inv {f : Int32 → Int32} {pc pc' : Nat} {L L' : zq_L} {st st' : List Value} (h : zq_un f pc L st = some (pc', L', st')) : ∃ (x : Int32) (r : List Value), st = .int x :: r ∧ pc' = pc ∧ L' = L ∧ st' = .int (f x) :: r := by
  unfold zq_un at h
  split at h
  · rename_i x r
    obtain ⟨h1, h2, h3⟩ := zq_ok_inv h
    exact ⟨x, r, rfl, h1, h2, h3⟩
  · cases h
theorem zq_to_inv {t : Int} {pc' : Nat} {L L' : zq_L} {st st' : List Value} (h : zq_to t L st = some (pc', L', st')) : t = (pc' : Int) ∧ L' = L ∧ st' = st := by
  unfold zq_to at h
  split at h
  · rename_i ht
    obtain ⟨h1, h2, h3⟩ := zq_ok_inv h
    exact ⟨by omega, h2, h3⟩
  · cases h
theorem zq_if1_inv {c : Jvm.ClassFile.Cond} {off : Int} {pc pc' : Nat} {L L' : zq_L} {st st' : List Value} (h : zq_if1 c off pc L st = some (pc', L', st')) : ∃ (x : Int32) (r : List Value) (tgt : Nat), st = .int x :: r ∧ (pc : Int) + off = (tgt : Int) ∧ pc' = (if zq_cmp c x 0 = true then tgt else pc + 3) ∧ L' = L ∧ st' = r := by
  unfold zq_if1 at h
  split at h
  · rename_i x r
    split at h
    · rename_i ht
      obtain ⟨h1, h2, h3⟩ := zq_ok_inv h
      exact ⟨x, r, ((pc : Int) + off).toNat, rfl, by omega, h1, h2, h3⟩
    · cases h
  · cases h
theorem zq_if2_inv {c : Jvm.ClassFile.Cond} {off : Int} {pc pc' : Nat} {L L' : zq_L} {st st' : List Value} (h : zq_if2 c off pc L st = some (pc', L', st')) : ∃ (x y : Int32) (r : List Value) (tgt : Nat), st = .int y :: .int x :: r ∧ (pc : Int) + off = (tgt : Int) ∧ pc' = (if zq_cmp c x y = true then tgt else pc + 3) ∧ L' = L ∧ st' = r := by
  unfold zq_if2 at h
  split at h
  · rename_i y x r
    split at h
    · rename_i ht
      obtain ⟨h1, h2, h3⟩ := zq_ok_inv h
      exact ⟨x, y, r, ((pc : Int) + off).toNat, rfl, by omega, h1, h2, h3⟩
    · cases h
  · cases h
section ZQP
variable {p : Program} {l : Launch} {e : Env} {R : Room} {s : State} {m : MethodId} {args : Array Value} {below : List Frame} {meth : Method} {c : Code} {H : Heap} {locs : List Loc} {cells slots : Nat} {Q : State → Prop}
variable {cc : ByteArray} {pc pc' n : Nat} {L L' : zq_L} {st st' : List Value} {ls : Array Slot}
set_option maxHeartbeats 4000000 in
theorem zq_pure_W {ins : Instr} (hx : p.tables.exec = Jvm.exec) (hb : c.code = cc) (hd : zq_dec cc pc ins) (hl : zq_l ls L n) (h : zq_pure ins pc L st = some (pc', L', st'))
    (k : ∀ ls' : Array Slot, zq_l ls' L' n → W p l e R s m args below meth c H locs cells slots Q (F0 m pc' ls' st')) : W p l e R s m args below meth c H locs cells slots Q (F0 m pc ls st) := by
  cases ins
  case aconst_null =>
    obtain ⟨rfl, rfl, rfl⟩ := zq_ok_inv h
    exact lv_null hx hb (hd.at rfl) (k ls hl)
  case iconst v =>
    obtain ⟨rfl, rfl, rfl⟩ := zq_ok_inv h
    exact lv_iconst hx hb (hd.at rfl) rfl (k ls hl)
  case bipush v =>
    obtain ⟨rfl, rfl, rfl⟩ := zq_ok_inv h
    exact lv_bipush hx hb (hd.at rfl) rfl (k ls hl)
  case sipush v =>
    obtain ⟨rfl, rfl, rfl⟩ := zq_ok_inv h
    exact lv_sipush hx hb (hd.at rfl) rfl (k ls hl)
  case iload v =>
    obtain ⟨x, hv, rfl, rfl, rfl⟩ := zq_ldI_inv h
    exact lv_iload hx hb (hd.at rfl) (hl.2.2.2 _ _ hv).1 (k ls hl)
  case iload_n v =>
    obtain ⟨x, hv, rfl, rfl, rfl⟩ := zq_ldI_inv h
    exact lv_iload_n hx hb (hd.at rfl) rfl (hl.2.2.2 _ _ hv).1 (k ls hl)
  case aload v =>
    obtain ⟨w, hv, hr, rfl, rfl, rfl⟩ := zq_ldA_inv h
    rcases zq_ref_cases hr with rfl | ⟨a, rfl⟩
    · exact lv_aloadN hx hb (hd.at rfl) (hl.2.2.2 _ _ hv).1 (k ls hl)
    · exact lv_aload hx hb (hd.at rfl) (hl.2.2.2 _ _ hv).1 (k ls hl)
  case aload_n v =>
    obtain ⟨w, hv, hr, rfl, rfl, rfl⟩ := zq_ldA_inv h
    rcases zq_ref_cases hr with rfl | ⟨a, rfl⟩
    · exact lv_aload_nN hx hb (hd.at rfl) rfl (hl.2.2.2 _ _ hv).1 (k ls hl)
    · exact lv_aload_n hx hb (hd.at rfl) rfl (hl.2.2.2 _ _ hv).1 (k ls hl)
  case istore v =>
    obtain ⟨x, r, rfl, hv, rfl, rfl, rfl⟩ := zq_stI_inv h
    exact lv_istore hx hb (hd.at rfl) hl.has (hl.2.1 ▸ hv) rfl (fun ls' hs => k ls' (hl.stored (hl.2.1 ▸ hv) rfl hs))
  case istore_n v =>
    obtain ⟨x, r, rfl, hv, rfl, rfl, rfl⟩ := zq_stI_inv h
    exact lv_istore_n hx hb (hd.at rfl) rfl hl.has (hl.2.1 ▸ hv) rfl (fun ls' hs => k ls' (hl.stored (hl.2.1 ▸ hv) rfl hs))
  case astore v =>
    obtain ⟨w, r, rfl, hr, hv, rfl, rfl, rfl⟩ := zq_stA_inv h
    rcases zq_ref_cases hr with rfl | ⟨a, rfl⟩
    · exact lv_astoreN hx hb (hd.at rfl) hl.has (hl.2.1 ▸ hv) rfl (fun ls' hs => k ls' (hl.stored (hl.2.1 ▸ hv) rfl hs))
    · exact lv_astore hx hb (hd.at rfl) hl.has (hl.2.1 ▸ hv) rfl (fun ls' hs => k ls' (hl.stored (hl.2.1 ▸ hv) rfl hs))
  case astore_n v =>
    obtain ⟨w, r, rfl, hr, hv, rfl, rfl, rfl⟩ := zq_stA_inv h
    rcases zq_ref_cases hr with rfl | ⟨a, rfl⟩
    · exact lv_astore_nN hx hb (hd.at rfl) rfl hl.has (hl.2.1 ▸ hv) rfl (fun ls' hs => k ls' (hl.stored (hl.2.1 ▸ hv) rfl hs))
    · exact lv_astore_n hx hb (hd.at rfl) rfl hl.has (hl.2.1 ▸ hv) rfl (fun ls' hs => k ls' (hl.stored (hl.2.1 ▸ hv) rfl hs))
  case iinc v z =>
    obtain ⟨x, hv, rfl, rfl, rfl⟩ := zq_inc_inv h
    have hlt : v < n := by have := (List.getElem?_eq_some_iff.mp hv).1; rw [hl.2.1] at this; exact this
    obtain ⟨j, hj⟩ := List.getElem?_of_mem (zq_prs_mem.mpr hv)
    exact lv_iinc hx hb (hd.at rfl) hl.has hj rfl hlt rfl (fun ls' hs => k ls' (hl.stored hlt rfl hs))
  case iadd =>
    obtain ⟨x, y, r, rfl, rfl, rfl, rfl⟩ := zq_bin_inv h
    exact lv_iadd hx hb (hd.at rfl) (k ls hl)
  case isub =>
    obtain ⟨x, y, r, rfl, rfl, rfl, rfl⟩ := zq_bin_inv h
    exact lv_isub hx hb (hd.at rfl) (k ls hl)
  case imul =>
    obtain ⟨x, y, r, rfl, rfl, rfl, rfl⟩ := zq_bin_inv h
    exact lv_imul hx hb (hd.at rfl) (k ls hl)
  case iand =>
    obtain ⟨x, y, r, rfl, rfl, rfl, rfl⟩ := zq_bin_inv h
    exact lv_iand hx hb (hd.at rfl) (k ls hl)
  case ior =>
    obtain ⟨x, y, r, rfl, rfl, rfl, rfl⟩ := zq_bin_inv h
    exact lv_ior hx hb (hd.at rfl) (k ls hl)
  case ixor =>
    obtain ⟨x, y, r, rfl, rfl, rfl, rfl⟩ := zq_bin_inv h
    exact lv_ixor hx hb (hd.at rfl) (k ls hl)
  case ishl =>
    obtain ⟨x, y, r, rfl, rfl, rfl, rfl⟩ := zq_bin_inv h
    exact lv_ishl hx hb (hd.at rfl) (k ls hl)
  case ishr =>
    obtain ⟨x, y, r, rfl, rfl, rfl, rfl⟩ := zq_bin_inv h
    exact lv_ishr hx hb (hd.at rfl) (k ls hl)
  case idiv =>
    replace h : zq_div (pc + 1) L st = some (pc', L', st') := h
    unfold zq_div at h
    split at h
    · split at h
      · cases h
      · rename_i hc
        obtain ⟨rfl, rfl, rfl⟩ := zq_ok_inv h
        exact lv_idiv hx hb (hd.at rfl) hc (k ls hl)
    · cases h
  case ineg =>
    obtain ⟨x, r, rfl, rfl, rfl, rfl⟩ := zq_un_inv h
    exact lv_ineg hx hb (hd.at rfl) (k ls hl)
  case dup =>
    replace h : zq_dup pc L st = some (pc', L', st') := h
    unfold zq_dup at h
    split at h
    · split at h
      · rename_i hc
        obtain ⟨rfl, rfl, rfl⟩ := zq_ok_inv h
        exact lv_dup hx hb (hd.at rfl) hc (k ls hl)
      · cases h
    · cases h
  case pop =>
    replace h : zq_pop pc L st = some (pc', L', st') := h
    unfold zq_pop at h
    split at h
    · split at h
      · rename_i hc
        obtain ⟨rfl, rfl, rfl⟩ := zq_ok_inv h
        exact lv_pop hx hb (hd.at rfl) hc (k ls hl)
      · cases h
    · cases h
  case dup_x1 =>
    replace h : zq_dupx1 pc L st = some (pc', L', st') := h
    unfold zq_dupx1 at h
    split at h
    · split at h
      · rename_i hc
        obtain ⟨rfl, rfl, rfl⟩ := zq_ok_inv h
        exact lv_dup_x1 hx hb (hd.at rfl) hc.1 hc.2 (k ls hl)
      · cases h
    · cases h
  case dup_x2 =>
    replace h : zq_dupx2 pc L st = some (pc', L', st') := h
    unfold zq_dupx2 at h
    split at h
    · split at h
      · rename_i hc
        obtain ⟨rfl, rfl, rfl⟩ := zq_ok_inv h
        exact lv_dup_x2 hx hb (hd.at rfl) hc.1 hc.2.1 hc.2.2 (k ls hl)
      · cases h
    · cases h
  case dup2 =>
    replace h : zq_dup2 pc L st = some (pc', L', st') := h
    unfold zq_dup2 at h
    split at h
    · split at h
      · rename_i hc
        obtain ⟨rfl, rfl, rfl⟩ := zq_ok_inv h
        exact lv_dup2_11 hx hb (hd.at rfl) hc.1 hc.2 (k ls hl)
      · cases h
    · cases h
  case ifCond c0 off =>
    obtain ⟨x, r, tgt, rfl, ht, hp, rfl, rfl⟩ := zq_if1_inv h
    have k0 := k ls hl
    cases c0
    · refine lv_if_eq hx hb (hd.at rfl) ht (fun q => ?_) (fun q => ?_)
      · rw [hp, if_pos (show zq_cmp .eq x 0 = true from decide_eq_true q)] at k0; exact k0
      · rw [hp, if_neg (show ¬ zq_cmp .eq x 0 = true from fun z => q (of_decide_eq_true z))] at k0; exact k0
    · refine lv_if_ne hx hb (hd.at rfl) ht (fun q => ?_) (fun q => ?_)
      · rw [hp, if_pos (show zq_cmp .ne x 0 = true from decide_eq_true q)] at k0; exact k0
      · rw [hp, if_neg (show ¬ zq_cmp .ne x 0 = true from fun z => of_decide_eq_true z q)] at k0; exact k0
    · refine lv_if_lt hx hb (hd.at rfl) ht (fun q => ?_) (fun q => ?_)
      · rw [hp, if_pos (show zq_cmp .lt x 0 = true from decide_eq_true q)] at k0; exact k0
      · rw [hp, if_neg (show ¬ zq_cmp .lt x 0 = true from fun z => q (of_decide_eq_true z))] at k0; exact k0
    · refine lv_if_ge hx hb (hd.at rfl) ht (fun q => ?_) (fun q => ?_)
      · rw [hp, if_pos (show zq_cmp .ge x 0 = true from decide_eq_true q)] at k0; exact k0
      · rw [hp, if_neg (show ¬ zq_cmp .ge x 0 = true from fun z => q (of_decide_eq_true z))] at k0; exact k0
    · refine lv_if_gt hx hb (hd.at rfl) ht (fun q => ?_) (fun q => ?_)
      · rw [hp, if_pos (show zq_cmp .gt x 0 = true from decide_eq_true q)] at k0; exact k0
      · rw [hp, if_neg (show ¬ zq_cmp .gt x 0 = true from fun z => q (of_decide_eq_true z))] at k0; exact k0
    · refine lv_if_le hx hb (hd.at rfl) ht (fun q => ?_) (fun q => ?_)
      · rw [hp, if_pos (show zq_cmp .le x 0 = true from decide_eq_true q)] at k0; exact k0
      · rw [hp, if_neg (show ¬ zq_cmp .le x 0 = true from fun z => q (of_decide_eq_true z))] at k0; exact k0
  case if_icmp c0 off =>
    obtain ⟨x, y, r, tgt, rfl, ht, hp, rfl, rfl⟩ := zq_if2_inv h
    have k0 := k ls hl
    cases c0
    · refine lv_icmp_eq hx hb (hd.at rfl) ht (fun q => ?_) (fun q => ?_)
      · rw [hp, if_pos (show zq_cmp .eq x y = true from decide_eq_true q)] at k0; exact k0
      · rw [hp, if_neg (show ¬ zq_cmp .eq x y = true from fun z => q (of_decide_eq_true z))] at k0; exact k0
    · refine lv_icmp_ne hx hb (hd.at rfl) ht (fun q => ?_) (fun q => ?_)
      · rw [hp, if_pos (show zq_cmp .ne x y = true from decide_eq_true q)] at k0; exact k0
      · rw [hp, if_neg (show ¬ zq_cmp .ne x y = true from fun z => of_decide_eq_true z q)] at k0; exact k0
    · refine lv_icmp_lt hx hb (hd.at rfl) ht (fun q => ?_) (fun q => ?_)
      · rw [hp, if_pos (show zq_cmp .lt x y = true from decide_eq_true q)] at k0; exact k0
      · rw [hp, if_neg (show ¬ zq_cmp .lt x y = true from fun z => q (of_decide_eq_true z))] at k0; exact k0
    · refine lv_icmp_ge hx hb (hd.at rfl) ht (fun q => ?_) (fun q => ?_)
      · rw [hp, if_pos (show zq_cmp .ge x y = true from decide_eq_true q)] at k0; exact k0
      · rw [hp, if_neg (show ¬ zq_cmp .ge x y = true from fun z => q (of_decide_eq_true z))] at k0; exact k0
    · refine lv_icmp_gt hx hb (hd.at rfl) ht (fun q => ?_) (fun q => ?_)
      · rw [hp, if_pos (show zq_cmp .gt x y = true from decide_eq_true q)] at k0; exact k0
      · rw [hp, if_neg (show ¬ zq_cmp .gt x y = true from fun z => q (of_decide_eq_true z))] at k0; exact k0
    · refine lv_icmp_le hx hb (hd.at rfl) ht (fun q => ?_) (fun q => ?_)
      · rw [hp, if_pos (show zq_cmp .le x y = true from decide_eq_true q)] at k0; exact k0
      · rw [hp, if_neg (show ¬ zq_cmp .le x y = true from fun z => q (of_decide_eq_true z))] at k0; exact k0
  case ifnull off =>
    replace h : zq_ifn off pc L st = some (pc', L', st') := h
    unfold zq_ifn at h
    split at h
    · obtain ⟨ht, rfl, rfl⟩ := zq_to_inv h
      exact lv_ifnullN hx hb (hd.at rfl) ht (k ls hl)
    · obtain ⟨rfl, rfl, rfl⟩ := zq_ok_inv h
      exact lv_ifnull hx hb (hd.at rfl) (k ls hl)
    · cases h
  case ifnonnull off =>
    replace h : zq_ifnn off pc L st = some (pc', L', st') := h
    unfold zq_ifnn at h
    split at h
    · obtain ⟨ht, rfl, rfl⟩ := zq_to_inv h
      exact lv_ifnonnull hx hb (hd.at rfl) ht (k ls hl)
    · obtain ⟨rfl, rfl, rfl⟩ := zq_ok_inv h
      exact lv_ifnonnullN hx hb (hd.at rfl) (k ls hl)
    · cases h
  case goto off =>
    obtain ⟨ht, rfl, rfl⟩ := zq_to_inv h
    exact lv_goto hx hb (hd.at rfl) ht (k ls hl)
  case tableswitch dflt lo hi offs =>
    replace h : zq_tab dflt lo hi offs pc L st = some (pc', L', st') := h
    obtain ⟨len, hd, -⟩ := hd
    unfold zq_tab at h
    split at h
    · split at h
      · rename_i hc
        obtain ⟨ht, rfl, rfl⟩ := zq_to_inv h
        exact lv_tableOut hx hb hd hc ht (k ls hl)
      · rename_i hc
        split at h
        · rename_i off ho
          obtain ⟨ht, rfl, rfl⟩ := zq_to_inv h
          exact lv_tableIn hx hb hd (fun q => hc (Or.inl q)) (fun q => hc (Or.inr q)) ho ht (k ls hl)
        · cases h
    · cases h
  all_goals exact absurd h (fun q => by cases (show (none : Option (Nat × zq_L × List Value)) = some _ from q))
end ZQP
