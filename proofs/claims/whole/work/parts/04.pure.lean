/-! THE PURE MACHINE: shapes (tag, length), ints and references by address and place, the next address, the slots used.
Tags: 0 nothing; 1 the script; 2 int[]; 3 boolean[]; 50 + c an array of objects of class c; 100 + c an object of class c. -/
abbrev zq_S : Type := Nat → Nat × Nat
abbrev zq_I : Type := Nat → Nat → Int32
abbrev zq_P : Type := Nat → Nat → Option Nat
abbrev zq_L : Type := List (Option Value)
abbrev zq_O : Type := Option Value × zq_S × zq_I × zq_P × Nat × Nat
abbrev zq_N : Type := Nat × zq_L × List Value × zq_S × zq_I × zq_P × Nat × Nat
abbrev zq_R : Type := Nat → Nat → Nat → zq_L → List Value → zq_S → zq_I → zq_P → Nat → Nat → Option zq_O
def zq_up {α : Type} (f : Nat → Nat → α) (a j : Nat) (v : α) : Nat → Nat → α := fun b k => if b = a ∧ k = j then v else f b k
def zq_us (f : zq_S) (a : Nat) (v : Nat × Nat) : zq_S := fun b => if b = a then v else f b
def zq_row {α : Type} (f : Nat → Nat → α) (a : Nat) (v : α) : Nat → Nat → α := fun b k => if b = a then v else f b k
def zq_ref (v : Value) : Bool := match v with
  | .ref _ => true
  | .null => true
  | _ => false
def zq_cmp (c : Jvm.ClassFile.Cond) (x y : Int32) : Bool := match c with
  | .eq => decide (x = y)
  | .ne => decide (¬ x = y)
  | .lt => decide (x < y)
  | .ge => decide (y ≤ x)
  | .gt => decide (y < x)
  | .le => decide (x ≤ y)
def zq_ok (pc : Nat) (L : zq_L) (st : List Value) : Option (Nat × zq_L × List Value) := some (pc, L, st)
def zq_ldI (v pc : Nat) (L : zq_L) (st : List Value) : Option (Nat × zq_L × List Value) := match L[v]? with
  | some (some (.int x)) => zq_ok pc L (.int x :: st)
  | _ => none
def zq_ldA (v pc : Nat) (L : zq_L) (st : List Value) : Option (Nat × zq_L × List Value) := match L[v]? with
  | some (some w) => if zq_ref w = true then zq_ok pc L (w :: st) else none
  | _ => none
def zq_stI (v pc : Nat) (L : zq_L) (st : List Value) : Option (Nat × zq_L × List Value) := match st with
  | .int x :: r => if v < L.length then zq_ok pc (L.set v (some (.int x))) r else none
  | _ => none
def zq_stA (v pc : Nat) (L : zq_L) (st : List Value) : Option (Nat × zq_L × List Value) := match st with
  | w :: r => if zq_ref w = true ∧ v < L.length then zq_ok pc (L.set v (some w)) r else none
  | _ => none
def zq_inc (v : Nat) (n : Int) (pc : Nat) (L : zq_L) (st : List Value) : Option (Nat × zq_L × List Value) := match L[v]? with
  | some (some (.int x)) => zq_ok pc (L.set v (some (.int (x + Int32.ofInt n)))) st
  | _ => none
def zq_bin (f : Int32 → Int32 → Int32) (pc : Nat) (L : zq_L) (st : List Value) : Option (Nat × zq_L × List Value) := match st with
  | .int y :: .int x :: r => zq_ok pc L (.int (f x y) :: r)
  | _ => none
def zq_div (pc : Nat) (L : zq_L) (st : List Value) : Option (Nat × zq_L × List Value) := match st with
  | .int y :: .int x :: r => if y = 0 then none else zq_ok pc L (.int (x / y) :: r)
  | _ => none
def zq_un (f : Int32 → Int32) (pc : Nat) (L : zq_L) (st : List Value) : Option (Nat × zq_L × List Value) := match st with
  | .int x :: r => zq_ok pc L (.int (f x) :: r)
  | _ => none
def zq_to (t : Int) (L : zq_L) (st : List Value) : Option (Nat × zq_L × List Value) := if 0 ≤ t then zq_ok t.toNat L st else none
def zq_if1 (c : Jvm.ClassFile.Cond) (off : Int) (pc : Nat) (L : zq_L) (st : List Value) : Option (Nat × zq_L × List Value) := match st with
  | .int x :: r => if 0 ≤ (pc : Int) + off then zq_ok (if zq_cmp c x 0 = true then ((pc : Int) + off).toNat else pc + 3) L r else none
  | _ => none
def zq_if2 (c : Jvm.ClassFile.Cond) (off : Int) (pc : Nat) (L : zq_L) (st : List Value) : Option (Nat × zq_L × List Value) := match st with
  | .int y :: .int x :: r => if 0 ≤ (pc : Int) + off then zq_ok (if zq_cmp c x y = true then ((pc : Int) + off).toNat else pc + 3) L r else none
  | _ => none
def zq_ifn (off : Int) (pc : Nat) (L : zq_L) (st : List Value) : Option (Nat × zq_L × List Value) := match st with
  | .null :: r => zq_to ((pc : Int) + off) L r
  | .ref _ :: r => zq_ok (pc + 3) L r
  | _ => none
def zq_ifnn (off : Int) (pc : Nat) (L : zq_L) (st : List Value) : Option (Nat × zq_L × List Value) := match st with
  | .ref _ :: r => zq_to ((pc : Int) + off) L r
  | .null :: r => zq_ok (pc + 3) L r
  | _ => none
def zq_dup (pc : Nat) (L : zq_L) (st : List Value) : Option (Nat × zq_L × List Value) := match st with
  | w :: r => if w.category = 1 then zq_ok (pc + 1) L (w :: w :: r) else none
  | _ => none
def zq_pop (pc : Nat) (L : zq_L) (st : List Value) : Option (Nat × zq_L × List Value) := match st with
  | w :: r => if w.category = 1 then zq_ok (pc + 1) L r else none
  | _ => none
def zq_dupx1 (pc : Nat) (L : zq_L) (st : List Value) : Option (Nat × zq_L × List Value) := match st with
  | w :: v :: r => if w.category = 1 ∧ v.category = 1 then zq_ok (pc + 1) L (w :: v :: w :: r) else none
  | _ => none
def zq_dupx2 (pc : Nat) (L : zq_L) (st : List Value) : Option (Nat × zq_L × List Value) := match st with
  | w :: v :: u :: r => if w.category = 1 ∧ v.category = 1 ∧ u.category = 1 then zq_ok (pc + 1) L (w :: v :: u :: w :: r) else none
  | _ => none
def zq_dup2 (pc : Nat) (L : zq_L) (st : List Value) : Option (Nat × zq_L × List Value) := match st with
  | w :: v :: r => if w.category = 1 ∧ v.category = 1 then zq_ok (pc + 1) L (w :: v :: w :: v :: r) else none
  | _ => none
def zq_tab (dflt lo hi : Int) (offs : Array Int) (pc : Nat) (L : zq_L) (st : List Value) : Option (Nat × zq_L × List Value) := match st with
  | .int x :: r => if x.toInt < lo ∨ hi < x.toInt then zq_to ((pc : Int) + dflt) L r else
    match offs[(x.toInt - lo).toNat]? with
    | some off => zq_to ((pc : Int) + off) L r
    | none => none
  | _ => none
def zq_pure (ins : Instr) (pc : Nat) (L : zq_L) (st : List Value) : Option (Nat × zq_L × List Value) := match ins with
  | .aconst_null => zq_ok (pc + 1) L (.null :: st)
  | .iconst n => zq_ok (pc + 1) L (.int (Int32.ofInt n) :: st)
  | .bipush n => zq_ok (pc + 2) L (.int (Int8.ofInt n).toInt32 :: st)
  | .sipush n => zq_ok (pc + 3) L (.int (Int16.ofInt n).toInt32 :: st)
  | .iload v => zq_ldI v (pc + 2) L st
  | .iload_n v => zq_ldI v.val (pc + 1) L st
  | .aload v => zq_ldA v (pc + 2) L st
  | .aload_n v => zq_ldA v.val (pc + 1) L st
  | .istore v => zq_stI v (pc + 2) L st
  | .istore_n v => zq_stI v.val (pc + 1) L st
  | .astore v => zq_stA v (pc + 2) L st
  | .astore_n v => zq_stA v.val (pc + 1) L st
  | .iinc v n => zq_inc v n (pc + 3) L st
  | .iadd => zq_bin (fun x y => x + y) (pc + 1) L st
  | .isub => zq_bin (fun x y => x - y) (pc + 1) L st
  | .imul => zq_bin (fun x y => x * y) (pc + 1) L st
  | .iand => zq_bin (fun x y => x &&& y) (pc + 1) L st
  | .ior => zq_bin (fun x y => x ||| y) (pc + 1) L st
  | .ixor => zq_bin (fun x y => x ^^^ y) (pc + 1) L st
  | .ishl => zq_bin (fun x y => x <<< (y &&& 31)) (pc + 1) L st
  | .ishr => zq_bin (fun x y => x >>> (y &&& 31)) (pc + 1) L st
  | .idiv => zq_div (pc + 1) L st
  | .ineg => zq_un (fun x => -x) (pc + 1) L st
  | .dup => zq_dup pc L st
  | .pop => zq_pop pc L st
  | .dup_x1 => zq_dupx1 pc L st
  | .dup_x2 => zq_dupx2 pc L st
  | .dup2 => zq_dup2 pc L st
  | .ifCond c off => zq_if1 c off pc L st
  | .if_icmp c off => zq_if2 c off pc L st
  | .ifnull off => zq_ifn off pc L st
  | .ifnonnull off => zq_ifnn off pc L st
  | .goto off => zq_to ((pc : Int) + off) L st
  | .tableswitch dflt lo hi offs => zq_tab dflt lo hi offs pc L st
  | _ => none
/-- heap steps: how long the instruction is, the new stack, and the new memory -/
abbrev zq_M : Type := Nat × List Value × zq_S × zq_I × zq_P × Nat × Nat
def zq_getf (o : Option (Nat × Nat)) (st : List Value) (sh : zq_S) (I : zq_I) (P : zq_P) (nx kx : Nat) : Option zq_M := match o, st with
  | some (ci, k), .ref a :: r => if (sh a).1 = 100 + ci then (if zq_ptr ci k = true then some (3, va_rf (P a k) :: r, sh, I, P, nx, kx) else some (3, .int (I a k) :: r, sh, I, P, nx, kx)) else none
  | _, _ => none
def zq_putf (b : Bool) (o : Option (Nat × Nat)) (st : List Value) (sh : zq_S) (I : zq_I) (P : zq_P) (nx kx : Nat) : Option zq_M := match o, st with
  | some (ci, k), .int x :: .ref a :: r => if (sh a).1 = 100 + ci ∧ zq_ptr ci k = false ∧ b = true then some (3, r, sh, zq_up I a k x, P, nx, kx) else none
  | some (ci, k), .ref y :: .ref a :: r => if (sh a).1 = 100 + ci ∧ zq_ptr ci k = true ∧ b = true then some (3, r, sh, I, zq_up P a k (some y), nx, kx) else none
  | some (ci, k), .null :: .ref a :: r => if (sh a).1 = 100 + ci ∧ zq_ptr ci k = true ∧ b = true then some (3, r, sh, I, zq_up P a k none, nx, kx) else none
  | _, _ => none
def zq_iald (st : List Value) (sh : zq_S) (I : zq_I) (P : zq_P) (nx kx : Nat) : Option zq_M := match st with
  | .int j :: .ref a :: r => if ((sh a).1 = 1 ∨ (sh a).1 = 2) ∧ 0 ≤ j ∧ j.toNatClampNeg < (sh a).2 then some (1, .int (I a j.toNatClampNeg) :: r, sh, I, P, nx, kx) else none
  | _ => none
def zq_bald (st : List Value) (sh : zq_S) (I : zq_I) (P : zq_P) (nx kx : Nat) : Option zq_M := match st with
  | .int j :: .ref a :: r => if (sh a).1 = 3 ∧ 0 ≤ j ∧ j.toNatClampNeg < (sh a).2 then some (1, .int (I a j.toNatClampNeg) :: r, sh, I, P, nx, kx) else none
  | _ => none
def zq_aald (st : List Value) (sh : zq_S) (I : zq_I) (P : zq_P) (nx kx : Nat) : Option zq_M := match st with
  | .int j :: .ref a :: r => if 50 ≤ (sh a).1 ∧ (sh a).1 < 100 ∧ 0 ≤ j ∧ j.toNatClampNeg < (sh a).2 then some (1, va_rf (P a j.toNatClampNeg) :: r, sh, I, P, nx, kx) else none
  | _ => none
def zq_iast (st : List Value) (sh : zq_S) (I : zq_I) (P : zq_P) (nx kx : Nat) : Option zq_M := match st with
  | .int x :: .int j :: .ref a :: r => if (sh a).1 = 2 ∧ 0 ≤ j ∧ j.toNatClampNeg < (sh a).2 then some (1, r, sh, zq_up I a j.toNatClampNeg x, P, nx, kx) else none
  | _ => none
def zq_bast (st : List Value) (sh : zq_S) (I : zq_I) (P : zq_P) (nx kx : Nat) : Option zq_M := match st with
  | .int x :: .int j :: .ref a :: r => if (sh a).1 = 3 ∧ 0 ≤ j ∧ j.toNatClampNeg < (sh a).2 then some (1, r, sh, zq_up I a j.toNatClampNeg (x &&& 1), P, nx, kx) else none
  | _ => none
def zq_aast (st : List Value) (sh : zq_S) (I : zq_I) (P : zq_P) (nx kx : Nat) : Option zq_M := match st with
  | .ref y :: .int j :: .ref a :: r => if 50 ≤ (sh a).1 ∧ (sh a).1 < 100 ∧ (sh y).1 = (sh a).1 + 50 ∧ 0 ≤ j ∧ j.toNatClampNeg < (sh a).2 then some (1, r, sh, I, zq_up P a j.toNatClampNeg (some y), nx, kx) else none
  | _ => none
def zq_alen (st : List Value) (sh : zq_S) (I : zq_I) (P : zq_P) (nx kx : Nat) : Option zq_M := match st with
  | .ref a :: r => if 0 < (sh a).1 ∧ (sh a).1 < 100 then some (1, .int (Int32.ofNat (sh a).2) :: r, sh, I, P, nx, kx) else none
  | _ => none
def zq_new (o : Option Nat) (st : List Value) (sh : zq_S) (I : zq_I) (P : zq_P) (nx kx : Nat) : Option zq_M := match o with
  | some ci => some (3, .ref nx :: st, zq_us sh nx (100 + ci, 0), zq_row I nx 0, zq_row P nx none, nx + 1, kx + zq_nf ci)
  | none => none
def zq_newa (t : Nat) (st : List Value) (sh : zq_S) (I : zq_I) (P : zq_P) (nx kx : Nat) : Option zq_M := match st with
  | .int n :: r => if 0 ≤ n ∧ n.toNatClampNeg ≤ 1000000 then some (2, .ref nx :: r, zq_us sh nx (t, n.toNatClampNeg), zq_row I nx 0, P, nx + 1, kx + n.toNatClampNeg) else none
  | _ => none
def zq_anew (o : Option Nat) (st : List Value) (sh : zq_S) (I : zq_I) (P : zq_P) (nx kx : Nat) : Option zq_M := match o, st with
  | some ci, .int n :: r => if 0 ≤ n ∧ n.toNatClampNeg ≤ 1000000 then some (3, .ref nx :: r, zq_us sh nx (50 + ci, n.toNatClampNeg), I, zq_row P nx none, nx + 1, kx + n.toNatClampNeg) else none
  | _, _ => none
def zq_oini (b : Bool) (st : List Value) (sh : zq_S) (I : zq_I) (P : zq_P) (nx kx : Nat) : Option zq_M := match st with
  | .ref _ :: r => if b = true ∧ (r.map fun v => v.category).sum ≤ 8 then some (3, r, sh, I, P, nx, kx) else none
  | _ => none
def zq_heap (i : Nat) (ins : Instr) (st : List Value) (sh : zq_S) (I : zq_I) (P : zq_P) (nx kx : Nat) : Option zq_M := match ins with
  | .getfield idx => zq_getf (zq_fld i idx) st sh I P nx kx
  | .putfield idx => zq_putf (zq_pok i idx) (zq_fld i idx) st sh I P nx kx
  | .iaload => zq_iald st sh I P nx kx
  | .baload => zq_bald st sh I P nx kx
  | .aaload => zq_aald st sh I P nx kx
  | .iastore => zq_iast st sh I P nx kx
  | .bastore => zq_bast st sh I P nx kx
  | .aastore => zq_aast st sh I P nx kx
  | .arraylength => zq_alen st sh I P nx kx
  | .new idx => zq_new (zq_cls i idx) st sh I P nx kx
  | .newarray .int => zq_newa 2 st sh I P nx kx
  | .newarray .boolean => zq_newa 3 st sh I P nx kx
  | .anewarray idx => zq_anew (zq_acl i idx) st sh I P nx kx
  | .invokespecial idx => zq_oini (zq_obj i idx) st sh I P nx kx
  | _ => none
def zq_next (i : Nat) (ins : Instr) (pc : Nat) (L : zq_L) (st : List Value) (sh : zq_S) (I : zq_I) (P : zq_P) (nx kx : Nat) : Option zq_N := match zq_pure ins pc L st with
  | some q => some (q.1, q.2.1, q.2.2, sh, I, P, nx, kx)
  | none => match zq_heap i ins st sh I P nx kx with
    | some q => some (pc + q.1, L, q.2)
    | none => none
/-- the answer, where the instruction returns -/
def zq_rti (t : Option FieldType) (st : List Value) : Option (Option Value) := match t, st with
  | some .int, [.int x] => some (some (.int x))
  | some .boolean, [.int x] => if x = 0 ∨ x = 1 then some (some (.int x)) else none
  | _, _ => none
def zq_rta (t : Option FieldType) (st : List Value) : Option (Option Value) := match t, st with
  | some (.object _), [w] => if zq_ref w = true then some (some w) else none
  | _, _ => none
def zq_rtv (t : Option FieldType) (st : List Value) : Option (Option Value) := match t, st with
  | none, [] => some none
  | _, _ => none
def zq_rt (i : Nat) (ins : Instr) (st : List Value) : Option (Option Value) := match ins with
  | .ireturn => zq_rti (zq_ret i) st
  | .areturn => zq_rta (zq_ret i) st
  | .return_ => zq_rtv (zq_ret i) st
  | _ => none
/-- the receiver: kinds 0 invokevirtual, 1 invokespecial, 2 invokestatic -/
def zq_rcv (kd j : Nat) (st : List Value) (sh : zq_S) : Bool := match st[zq_na j - 1]? with
  | some (.ref b) => kd == 1 || (sh b).1 == 100 + zq_oc j
  | _ => false
def zq_arg (kd j : Nat) (st : List Value) (sh : zq_S) : Bool :=
  decide (zq_na j ≤ st.length) && (decide (((st.drop (zq_na j)).map fun v => v.category).sum ≤ 8) && ((st.take (zq_na j)).all (fun v => v.category == 1) && (kd == 2 || zq_rcv kd j st sh)))
def zq_ent (j : Nat) (As : List Value) : zq_L := As.map some ++ List.replicate (zq_ml j - As.length) none
def zq_body (rec : zq_R) : zq_R := fun d i pc L st sh I P nx kx => match zq_ins i pc with
  | none => none
  | some ins => match zq_mth i ins with
    | some (j, kd) => match d with
      | 0 => none
      | d' + 1 => if zq_arg kd j st sh = true then (rec d' j 0 (zq_ent j (st.take (zq_na j)).reverse) [] sh I P nx kx).bind fun q => rec (d' + 1) i (pc + 3) L (q.1.toList ++ st.drop (zq_na j)) q.2.1 q.2.2.1 q.2.2.2.1 q.2.2.2.2.1 q.2.2.2.2.2 else none
    | none => match zq_rt i ins st with
      | some v => some (v, sh, I, P, nx, kx)
      | none => match zq_next i ins pc L st sh I P nx kx with
        | some q => rec d i q.1 q.2.1 q.2.2.1 q.2.2.2.1 q.2.2.2.2.1 q.2.2.2.2.2.1 q.2.2.2.2.2.2.1 q.2.2.2.2.2.2.2
        | none => none
def zq_run : Nat → zq_R
  | 0 => fun _ _ _ _ _ _ _ _ _ _ => none
  | n + 1 => zq_body (zq_run n)
/-! the limit: what the machine answers with as many steps as it takes -/
noncomputable def zq_lim {α : Type} (f : Nat → Option α) : Option α := @dite _ (∃ n, ∃ v, f n = some v) (Classical.propDecidable _) (fun h => f (Classical.choose h)) (fun _ => none)
def zq_mo {α : Type} (f : Nat → Option α) : Prop := ∀ n v, f n = some v → f (n + 1) = some v
theorem zq_mo.le {α : Type} {f : Nat → Option α} (h : zq_mo f) {n m : Nat} {v : α} (hn : f n = some v) (hm : n ≤ m) : f m = some v := by
  induction hm with
  | refl => exact hn
  | step _ ih => exact h _ _ ih
theorem zq_lim_of {α : Type} {f : Nat → Option α} (h : zq_mo f) {n : Nat} {v : α} (hn : f n = some v) : zq_lim f = some v := by
  have hx : ∃ n, ∃ v, f n = some v := ⟨n, v, hn⟩
  unfold zq_lim
  rw [dif_pos hx]
  obtain ⟨w, hw⟩ := Classical.choose_spec hx
  rcases Nat.le_total n (Classical.choose hx) with q | q
  · exact h.le hn q
  · have h2 := h.le hw q
    rw [hw, ← h2, hn]
theorem zq_lim_ex {α : Type} {f : Nat → Option α} {v : α} (h : zq_lim f = some v) : ∃ n, f n = some v := by
  unfold zq_lim at h
  split at h
  · exact ⟨_, h⟩
  · cases h
theorem zq_lim_iff {α : Type} {f : Nat → Option α} (h : zq_mo f) (v : α) : zq_lim f = some v ↔ ∃ n, f n = some v := ⟨zq_lim_ex, fun ⟨_, hn⟩ => zq_lim_of h hn⟩
theorem zq_opt {α : Type} {a b : Option α} (h : ∀ v, a = some v ↔ b = some v) : a = b := by
  cases a with
  | none => cases b with
    | none => rfl
    | some y => exact absurd ((h y).mpr rfl) (by simp)
  | some x => exact ((h x).mp rfl).symm
theorem zq_body_mo {r1 r2 : zq_R} (h : ∀ d i pc L st sh I P nx kx v, r1 d i pc L st sh I P nx kx = some v → r2 d i pc L st sh I P nx kx = some v) (d i pc : Nat) (L : zq_L) (st : List Value) (sh : zq_S) (I : zq_I) (P : zq_P) (nx kx : Nat) (v : zq_O) (hv : zq_body r1 d i pc L st sh I P nx kx = some v) : zq_body r2 d i pc L st sh I P nx kx = some v := by
  unfold zq_body at hv ⊢
  split at hv
  · cases hv
  · split at hv
    · split at hv
      · cases hv
      · split at hv
        · rename_i ha
          rw [if_pos ha]
          obtain ⟨q, hq, hv⟩ := Option.bind_eq_some_iff.mp hv
          rw [h _ _ _ _ _ _ _ _ _ _ _ hq]
          exact h _ _ _ _ _ _ _ _ _ _ _ hv
        · cases hv
    · split at hv
      · exact hv
      · split at hv
        · exact h _ _ _ _ _ _ _ _ _ _ _ hv
        · cases hv
theorem zq_run_mo (d i pc : Nat) (L : zq_L) (st : List Value) (sh : zq_S) (I : zq_I) (P : zq_P) (nx kx : Nat) : zq_mo (fun n => zq_run n d i pc L st sh I P nx kx) := by
  intro n
  have key : ∀ d i pc L st sh I P nx kx v, zq_run n d i pc L st sh I P nx kx = some v → zq_run (n + 1) d i pc L st sh I P nx kx = some v := by
    induction n with
    | zero => intro d i pc L st sh I P nx kx v h; cases h
    | succ n ih => intro d i pc L st sh I P nx kx v h; exact zq_body_mo ih d i pc L st sh I P nx kx v h
  exact fun v => key d i pc L st sh I P nx kx v
noncomputable def zq_F (d i pc : Nat) (L : zq_L) (st : List Value) (sh : zq_S) (I : zq_I) (P : zq_P) (nx kx : Nat) : Option zq_O := zq_lim (fun n => zq_run n d i pc L st sh I P nx kx)
noncomputable def zq_C (d j : Nat) (As : List Value) (sh : zq_S) (I : zq_I) (P : zq_P) (nx kx : Nat) : Option zq_O := zq_F d j 0 (zq_ent j As) [] sh I P nx kx
theorem zq_F_ex {d i pc : Nat} {L : zq_L} {st : List Value} {sh : zq_S} {I : zq_I} {P : zq_P} {nx kx : Nat} {v : zq_O} : zq_F d i pc L st sh I P nx kx = some v ↔ ∃ n, zq_run n d i pc L st sh I P nx kx = some v := zq_lim_iff (zq_run_mo d i pc L st sh I P nx kx) v
theorem zq_F_body {d i pc : Nat} {L : zq_L} {st : List Value} {sh : zq_S} {I : zq_I} {P : zq_P} {nx kx : Nat} {v : zq_O} : zq_F d i pc L st sh I P nx kx = some v ↔ ∃ n, zq_body (zq_run n) d i pc L st sh I P nx kx = some v := by
  rw [zq_F_ex]
  constructor
  · rintro ⟨n, h⟩
    cases n with
    | zero => cases h
    | succ n => exact ⟨n, h⟩
  · rintro ⟨n, h⟩
    exact ⟨n + 1, h⟩
/-- one step that is no call and no return -/
theorem zq_F_next {d i pc pc' nx' kx' : Nat} {ins : Instr} {L L' : zq_L} {st st' : List Value} {sh sh' : zq_S} {I I' : zq_I} {P P' : zq_P} {nx kx : Nat} (hi : zq_ins i pc = some ins) (hm : zq_mth i ins = none) (hr : zq_rt i ins st = none) (hn : zq_next i ins pc L st sh I P nx kx = some (pc', L', st', sh', I', P', nx', kx')) :
    zq_F d i pc L st sh I P nx kx = zq_F d i pc' L' st' sh' I' P' nx' kx' := by
  have key : ∀ r : zq_R, zq_body r d i pc L st sh I P nx kx = r d i pc' L' st' sh' I' P' nx' kx' := by
    intro r
    simp only [zq_body, hi, hm, hr, hn]
  refine zq_opt fun v => ?_
  rw [zq_F_body, zq_F_ex]
  simp only [key]
/-- a return -/
theorem zq_F_ret {d i pc : Nat} {ins : Instr} {L : zq_L} {st : List Value} {sh : zq_S} {I : zq_I} {P : zq_P} {nx kx : Nat} {v : Option Value} (hi : zq_ins i pc = some ins) (hm : zq_mth i ins = none) (hr : zq_rt i ins st = some v) :
    zq_F d i pc L st sh I P nx kx = some (v, sh, I, P, nx, kx) := by
  rw [zq_F_body]
  exact ⟨0, by simp only [zq_body, hi, hm, hr]⟩
/-- a call -/
theorem zq_F_call {d i pc j kd : Nat} {ins : Instr} {L : zq_L} {st rest As : List Value} {sh : zq_S} {I : zq_I} {P : zq_P} {nx kx : Nat} (hi : zq_ins i pc = some ins) (hm : zq_mth i ins = some (j, kd)) (ha : zq_arg kd j st sh = true) (hA : (st.take (zq_na j)).reverse = As) (hr : st.drop (zq_na j) = rest) :
    zq_F (d + 1) i pc L st sh I P nx kx = (zq_C d j As sh I P nx kx).bind fun q => zq_F (d + 1) i (pc + 3) L (q.1.toList ++ rest) q.2.1 q.2.2.1 q.2.2.2.1 q.2.2.2.2.1 q.2.2.2.2.2 := by
  subst hA; subst hr
  have key : ∀ r : zq_R, zq_body r (d + 1) i pc L st sh I P nx kx = (r d j 0 (zq_ent j (st.take (zq_na j)).reverse) [] sh I P nx kx).bind fun q => r (d + 1) i (pc + 3) L (q.1.toList ++ st.drop (zq_na j)) q.2.1 q.2.2.1 q.2.2.2.1 q.2.2.2.2.1 q.2.2.2.2.2 := by
    intro r
    simp only [zq_body, hi, hm]
    rw [if_pos ha]
  refine zq_opt fun v => ?_
  rw [zq_F_body]
  simp only [key, Option.bind_eq_some_iff]
  constructor
  · rintro ⟨n, q, h1, h2⟩
    exact ⟨q, zq_F_ex.mpr ⟨n, h1⟩, zq_F_ex.mpr ⟨n, h2⟩⟩
  · rintro ⟨q, h1, h2⟩
    obtain ⟨n1, h1⟩ := zq_F_ex.mp h1
    obtain ⟨n2, h2⟩ := zq_F_ex.mp h2
    refine ⟨max n1 n2, q, ?_, ?_⟩
    · exact (zq_run_mo _ _ _ _ _ _ _ _ _ _).le h1 (Nat.le_max_left _ _)
    · exact (zq_run_mo _ _ _ _ _ _ _ _ _ _).le h2 (Nat.le_max_right _ _)
