/-! the worlds of the pure machine -/
def zq_pt (t j : Nat) : Bool := if t < 50 then false else if t < 100 then true else zq_ptr (t - 100) j
def zq_v (t : Nat) (Ia : Nat → Int32) (Pa : Nat → Option Nat) (j : Nat) : Value := if zq_pt t j = true then va_rf (Pa j) else .int (Ia j)
def zq_K (D : va_G) (dA : Nat → ClassId) (U : State) : Prop :=
  (∀ (c : Nat) (q : vw_C), vwCl[c]? = some q → u_Kn U q.1 q.2.1 q.2.2 (D.1 c) (D.2 c)) ∧
  (∀ q ∈ zq_arr, ArrOfT U (dA q.1) q.2 ∧ (q.1 = 1 ∨ va_RA U (dA q.1) q.2)) ∧
  (∀ q ∈ zq_nest, va_Nw (.methodLinkNest q.1 q.2.1 q.2.2.1 q.2.2.2) U) ∧
  ∀ C ∈ zq_ao, va_AO C U
theorem zq_K.moved {D : va_G} {dA : Nat → ClassId} {s U : State} (hW : s.WarmedH U.vm) (h : zq_K D dA s) : zq_K D dA U :=
  ⟨fun c q hq => u_Kn_moved hW.alike (h.1 c q hq), fun q hq => ⟨arrOfT_moved hW.alike (h.2.1 q hq).1, (h.2.1 q hq).2.imp id (fun z => z.moved hW.alike)⟩, fun q hq => va_Nw.warmM hW (h.2.2.1 q hq), fun C hC => (h.2.2.2 C hC).moved hW.alike⟩
theorem zq_K.same {D : va_G} {dA : Nat → ClassId} {s U : State} (hv : s.vm = U.vm) (h : zq_K D dA s) : zq_K D dA U := by
  have ha : s.vm.Alike U.vm := hv ▸ Vm.Alike.refl s.vm
  exact ⟨fun c q hq => u_Kn_moved ha (h.1 c q hq), fun q hq => ⟨arrOfT_moved ha (h.2.1 q hq).1, (h.2.1 q hq).2.imp id (fun z => z.moved ha)⟩, fun q hq => va_Nw.same rfl hv (h.2.2.1 q hq), fun C hC => (h.2.2.2 C hC).moved ha⟩
def zq_cell (D : va_G) (dA : Nat → ClassId) (lo t len : Nat) (Ia : Nat → Int32) (Pa : Nat → Option Nat) (a : Nat) (H : Heap) : Prop :=
  if t = 0 then True else if t = 1 then ∃ scr : Cell, H[a]? = some scr ∧ scr.cls = dA 1 ∧ (∀ k, scr.vm ≠ .statics k) ∧ scr.vm ≠ .unknown ∧ scr.slots.size = len ∧ ∀ j, j < len → scr.slots[j]? = some (.int (Ia j))
  else lo ≤ a ∧ if t < 100 then (∃ ty, (t, ty) ∈ zq_arr) ∧ H[a]? = some (arrV (dA t) len (zq_v t Ia Pa)) else ∃ r : vw_C, vwCl[t - 100]? = some r ∧ t_OB a (D.1 (t - 100)) r.2.2 (D.2 (t - 100)) H (zq_v t Ia Pa)
theorem zq_cell.kept {D : va_G} {dA : Nat → ClassId} {lo t len a : Nat} {Ia : Nat → Int32} {Pa : Nat → Option Nat} {H H1 : Heap} (h : zq_cell D dA lo t len Ia Pa a H) (hq : H1[a]? = H[a]?) : zq_cell D dA lo t len Ia Pa a H1 := by
  unfold zq_cell at h ⊢
  split
  · trivial
  · rename_i h0
    rw [if_neg h0] at h
    split
    · rename_i h1
      rw [if_pos h1] at h
      rw [hq]
      exact h
    · rename_i h1
      rw [if_neg h1] at h
      refine ⟨h.1, ?_⟩
      have h2 := h.2
      split
      · rename_i h3
        rw [if_pos h3] at h2
        rw [hq]
        exact h2
      · rename_i h3
        rw [if_neg h3] at h2
        obtain ⟨r, h4, h5⟩ := h2
        exact ⟨r, h4, h5.kept hq⟩
theorem zq_cell.arr {D : va_G} {dA : Nat → ClassId} {lo t len a : Nat} {Ia : Nat → Int32} {Pa : Nat → Option Nat} {H : Heap} (h : zq_cell D dA lo t len Ia Pa a H) (h1 : 1 < t) (h2 : t < 100) : lo ≤ a ∧ (∃ ty, (t, ty) ∈ zq_arr) ∧ H[a]? = some (arrV (dA t) len (zq_v t Ia Pa)) := by
  unfold zq_cell at h
  rw [if_neg (by omega), if_neg (by omega), if_pos h2] at h
  exact h
theorem zq_cell.obj {D : va_G} {dA : Nat → ClassId} {lo ci len a : Nat} {Ia : Nat → Int32} {Pa : Nat → Option Nat} {H : Heap} (h : zq_cell D dA lo (100 + ci) len Ia Pa a H) : lo ≤ a ∧ ∃ r : vw_C, vwCl[ci]? = some r ∧ t_OB a (D.1 ci) r.2.2 (D.2 ci) H (zq_v (100 + ci) Ia Pa) := by
  unfold zq_cell at h
  rw [if_neg (by omega), if_neg (by omega), if_neg (by omega), Nat.add_sub_cancel_left] at h
  exact h
theorem zq_cell.mkarr {D : va_G} {dA : Nat → ClassId} {lo t len a : Nat} {Ia : Nat → Int32} {Pa : Nat → Option Nat} {H : Heap} (h1 : 1 < t) (h2 : t < 100) (h : lo ≤ a ∧ (∃ ty, (t, ty) ∈ zq_arr) ∧ H[a]? = some (arrV (dA t) len (zq_v t Ia Pa))) : zq_cell D dA lo t len Ia Pa a H := by
  unfold zq_cell
  rw [if_neg (by omega), if_neg (by omega), if_pos h2]
  exact h
theorem zq_cell.mkobj {D : va_G} {dA : Nat → ClassId} {lo ci len a : Nat} {Ia : Nat → Int32} {Pa : Nat → Option Nat} {H : Heap} (h : lo ≤ a ∧ ∃ r : vw_C, vwCl[ci]? = some r ∧ t_OB a (D.1 ci) r.2.2 (D.2 ci) H (zq_v (100 + ci) Ia Pa)) : zq_cell D dA lo (100 + ci) len Ia Pa a H := by
  unfold zq_cell
  rw [if_neg (by omega), if_neg (by omega), if_neg (by omega), Nat.add_sub_cancel_left]
  exact h
theorem zq_cell.lt {D : va_G} {dA : Nat → ClassId} {lo t len a : Nat} {Ia : Nat → Int32} {Pa : Nat → Option Nat} {H : Heap} (h : zq_cell D dA lo t len Ia Pa a H) (ht : t ≠ 0) : a < H.size := by
  unfold zq_cell at h
  rw [if_neg ht] at h
  split at h
  · obtain ⟨scr, h1, -⟩ := h
    exact (Array.getElem?_eq_some_iff.mp h1).1
  · have h2 := h.2
    split at h2
    · exact (Array.getElem?_eq_some_iff.mp h2.2).1
    · obtain ⟨r, -, cell, h3, -⟩ := h2
      exact (Array.getElem?_eq_some_iff.mp h3).1
def zq_W (D : va_G) (dA : Nat → ClassId) (lo : Nat) (sh : zq_S) (I : zq_I) (P : zq_P) (nx : Nat) (H : Heap) : Prop := H.size = nx ∧ ∀ a, zq_cell D dA lo (sh a).1 (sh a).2 (I a) (P a) a H
theorem zq_W.put {D : va_G} {dA : Nat → ClassId} {lo nx a : Nat} {sh : zq_S} {I I' : zq_I} {P P' : zq_P} {H H1 : Heap} (h : zq_W D dA lo sh I P nx H) (z : H1.size = H.size) (o : ∀ q : Nat, q ≠ a → H1[q]? = H[q]?) (hI : ∀ b, b ≠ a → I' b = I b) (hP : ∀ b, b ≠ a → P' b = P b) (hc : zq_cell D dA lo (sh a).1 (sh a).2 (I' a) (P' a) a H1) : zq_W D dA lo sh I' P' nx H1 := by
  refine ⟨z.trans h.1, fun b => ?_⟩
  by_cases hb : b = a
  · rw [hb]; exact hc
  · rw [hI b hb, hP b hb]
    exact (h.2 b).kept (o b hb)
theorem zq_W.push {D : va_G} {dA : Nat → ClassId} {lo nx : Nat} {sh sh' : zq_S} {I I' : zq_I} {P P' : zq_P} {H H1 : Heap} (h : zq_W D dA lo sh I P nx H) (z : H1.size = H.size + 1) (o : ∀ q : Nat, q < H.size → H1[q]? = H[q]?) (hs : ∀ b, b ≠ nx → sh' b = sh b) (hI : ∀ b, b ≠ nx → I' b = I b) (hP : ∀ b, b ≠ nx → P' b = P b) (hc : zq_cell D dA lo (sh' nx).1 (sh' nx).2 (I' nx) (P' nx) nx H1) : zq_W D dA lo sh' I' P' (nx + 1) H1 := by
  refine ⟨by rw [z, h.1], fun b => ?_⟩
  by_cases hb : b = nx
  · rw [hb]; exact hc
  · rw [hs b hb, hI b hb, hP b hb]
    by_cases h0 : (sh b).1 = 0
    · unfold zq_cell
      rw [if_pos h0]
      trivial
    · exact (h.2 b).kept (o b ((h.2 b).lt h0))
theorem zq_up_ne {α : Type} {f : Nat → Nat → α} {a j : Nat} {v : α} (b : Nat) (h : b ≠ a) : zq_up f a j v b = f b := by
  funext k
  simp [zq_up, h]
theorem zq_row_ne {α : Type} {f : Nat → Nat → α} {a : Nat} {v : α} (b : Nat) (h : b ≠ a) : zq_row f a v b = f b := by
  funext k
  simp [zq_row, h]
theorem zq_us_ne {f : zq_S} {a : Nat} {v : Nat × Nat} (b : Nat) (h : b ≠ a) : zq_us f a v b = f b := by simp [zq_us, h]
theorem zq_us_eq {f : zq_S} {a : Nat} {v : Nat × Nat} : zq_us f a v a = v := by simp [zq_us]
theorem zq_v_int {t : Nat} {Ia : Nat → Int32} {Pa : Nat → Option Nat} {j : Nat} (h : zq_pt t j = false) : zq_v t Ia Pa j = .int (Ia j) := by simp [zq_v, h]
theorem zq_v_ptr {t : Nat} {Ia : Nat → Int32} {Pa : Nat → Option Nat} {j : Nat} (h : zq_pt t j = true) : zq_v t Ia Pa j = va_rf (Pa j) := by simp [zq_v, h]
theorem zq_pt_obj (ci k : Nat) : zq_pt (100 + ci) k = zq_ptr ci k := by
  unfold zq_pt
  rw [if_neg (by omega), if_neg (by omega), Nat.add_sub_cancel_left]
theorem zq_pt_lo {t : Nat} (h : t < 50) (k : Nat) : zq_pt t k = false := by
  unfold zq_pt
  rw [if_pos h]
theorem zq_pt_mid {t : Nat} (h : 50 ≤ t) (h2 : t < 100) (k : Nat) : zq_pt t k = true := by
  unfold zq_pt
  rw [if_neg (by omega), if_pos h2]
/-- an int is put: the values behind it -/
theorem zq_v_upI {t a k : Nat} {I : zq_I} {Pa : Nat → Option Nat} {x : Int32} (h : zq_pt t k = false) (j : Nat) : updV (zq_v t (I a) Pa) k (.int x) j = zq_v t (zq_up I a k x a) Pa j := by
  unfold updV zq_v
  by_cases hj : j = k
  · subst hj
    simp [h, zq_up]
  · simp [hj, zq_up]
theorem zq_v_upP {t a k : Nat} {Ia : Nat → Int32} {P : zq_P} {y : Option Nat} (h : zq_pt t k = true) (j : Nat) : updV (zq_v t Ia (P a)) k (va_rf y) j = zq_v t Ia (zq_up P a k y a) j := by
  unfold updV zq_v
  by_cases hj : j = k
  · subst hj
    simp [h, zq_up]
  · simp [hj, zq_up]
/-- a method's frame -/
def zq_X (p : Program) (R : Room) (s : State) (m : MethodId) (args : Array Value) (meth : Method) (c : Code) (i d : Nat) (D : va_G) (dA : Nat → ClassId) : Prop :=
  p.tables.exec = Jvm.exec ∧ c.code = zq_bc i ∧ c.maxLocals = zq_ml i ∧ s.vm.findClass (zq_own i) = some m.cls ∧ (∀ w ∈ zq_tb, w.before args s = true) ∧ (zq_ini i = true → meth.name = "<init>") ∧ zq_K D dA s ∧ d ≤ R.frames ∧ 64 * d ≤ R.locals
theorem zq_fit {ci k : Nat} {v : Value} {C : String} {T : u_T} {N : Nat} (hO : zq_clsOK ci C T N) (hk : k < N) (h : (zq_ptr ci k = false ∧ ∃ x, v = .int x) ∨ (zq_ptr ci k = true ∧ zq_ref v = true)) : narrow (zq_ty ci k) v = v ∧ fits (zq_ty ci k) v = true := by
  rcases hO.2.2.2.2 k hk with ⟨h1, h2⟩ | ⟨h1, h2⟩
  · rcases h with ⟨-, x, rfl⟩ | ⟨h3, -⟩
    · rw [h2]; exact ⟨rfl, rfl⟩
    · rw [h1] at h3; cases h3
  · rcases h with ⟨h3, -⟩ | ⟨-, h3⟩
    · rw [h1] at h3; cases h3
    · rcases zq_ref_cases h3 with rfl | ⟨a, rfl⟩ <;> rcases h2 with ⟨n, h2⟩ | ⟨n, h2⟩ <;> rw [h2] <;> exact ⟨rfl, rfl⟩
section ZQH
variable {p : Program} {l : Launch} {e : Env} {R : Room} {s : State} {m : MethodId} {args : Array Value} {below : List Frame} {meth : Method} {c : Code} {H : Heap} {locs : List Loc} {cells slots : Nat} {Q : State → Prop}
variable {i d pc lo nx kx : Nat} {D : va_G} {dA : Nat → ClassId} {sh : zq_S} {I : zq_I} {P : zq_P} {st rest : List Value} {ls : Array Slot}
set_option maxHeartbeats 4000000 in
theorem zq_get_W {idx ci k a : Nat} (hX : zq_X p R s m args meth c i d D dA) (hd : decode (zq_bc i) pc = .ok (.getfield idx, 3)) (hW : zq_W D dA lo sh I P nx H) (hf : zq_fld i idx = some (ci, k)) (ht : (sh a).1 = 100 + ci)
    (kk : W p l e R s m args below meth c H locs cells slots Q (F0 m (pc + 3) ls (zq_v (100 + ci) (I a) (P a) k :: rest))) : W p l e R s m args below meth c H locs cells slots Q (F0 m pc ls (.ref a :: rest)) := by
  obtain ⟨hx, hb, -, hown, hts, -, hK, -⟩ := hX
  obtain ⟨C, T, N, hO, hk, hlink, -⟩ := zq_t_fld hf
  have hcell := hW.2 a
  rw [ht] at hcell
  obtain ⟨-, r, hr, cell, q1, q2, q3, q4⟩ := hcell.obj
  cases hO.1.symm.trans hr
  obtain ⟨hS, hfc, kC, hkC, hkind⟩ := hK.1 ci _ hO.1
  obtain ⟨cf, kf, fi, f, hi, hsl⟩ := hS k hk
  refine W.getf hx hb hown (hts _ hlink) hi (u_facts hfc hkC (u_lays hts hO.2.1 hk) hi).1 q1 (by rw [q3]; exact fun h => by cases h) (v := zq_v (100 + ci) (I a) (P a) k) ?_ rfl rfl hd kk
  rw [hsl, q4 k hk]
set_option maxHeartbeats 4000000 in
theorem zq_put_W {idx ci k a : Nat} {v : Value} {I' : zq_I} {P' : zq_P} (hX : zq_X p R s m args meth c i d D dA) (hd : decode (zq_bc i) pc = .ok (.putfield idx, 3)) (hW : zq_W D dA lo sh I P nx H) (hS0 : va_S (fun q => lo ≤ q) s.heap H locs) (hf : zq_fld i idx = some (ci, k)) (hpk : zq_pok i idx = true) (ht : (sh a).1 = 100 + ci)
    (hv : (zq_ptr ci k = false ∧ ∃ x, v = .int x) ∨ (zq_ptr ci k = true ∧ zq_ref v = true)) (hI : ∀ b, b ≠ a → I' b = I b) (hP : ∀ b, b ≠ a → P' b = P b) (hu : ∀ j, updV (zq_v (100 + ci) (I a) (P a)) k v j = zq_v (100 + ci) (I' a) (P' a) j)
    (kk : ∀ (H' : Heap) (locs' : List Loc), zq_W D dA lo sh I' P' nx H' → va_S (fun q => lo ≤ q) s.heap H' locs' → W p l e R s m args below meth c H' locs' cells slots Q (F0 m (pc + 3) ls rest)) : W p l e R s m args below meth c H locs cells slots Q (F0 m pc ls (v :: .ref a :: rest)) := by
  obtain ⟨hx, hb, -, hown, hts, hmn, hK, -⟩ := hX
  obtain ⟨C, T, N, hO, hk, hlink, hfin⟩ := zq_t_fld hf
  have hcell := hW.2 a
  rw [ht] at hcell
  obtain ⟨hla, r, hr, cell, q1, q2, q3, q4⟩ := hcell.obj
  cases hO.1.symm.trans hr
  have hap := va_apart (own := C) (tys := []) (D := D) (cl := vwCl) (ci := ci) hts hO.2.1 (zq_ty ci) hO.2.2.1 hO.2.2.2.1 ⟨hK.1, fun k q h => by simp at h⟩ hO.1
  obtain ⟨hS, hfc, kC, hkC, hkind⟩ := hK.1 ci _ hO.1
  obtain ⟨cf, kf, fi, f, hi, hsl⟩ := hS k hk
  have hlay := hts _ (hO.2.1 _ (u_in_lay hk))
  have hst := (u_facts hfc hkC (u_lays hts hO.2.1 hk) hi).1
  obtain ⟨hn, hfit⟩ := zq_fit hO hk hv
  have done : ∀ (H' : Heap), H'[a]? = some (cell.setSlot (D.2 ci k) v) → H'.size = H.size → (∀ q, q ≠ a → H'[q]? = H[q]?) → zq_W D dA lo sh I' P' nx H' := by
    intro H' e1 e2 e3
    refine hW.put e2 e3 hI hP ?_
    rw [ht]
    exact zq_cell.mkobj ⟨hla, _, hO.1, t_OB.to (V := updV (zq_v (100 + ci) (I a) (P a)) k v) ⟨_, e1, q2, q3, t_set q4 hap hk v⟩ (fun j _ => hu j)⟩
  rcases hfin hpk with h0 | ⟨h0, h1, h2⟩
  · unfold u_lay at hlay
    rw [if_neg (by rw [h0]; decide)] at hlay
    have h6 := u_store hfc hkC hkind hlay hi (hO.2.2.1 k hk) hn hfit
    refine W.putK hx hb (f := f) ⟨hown, hts _ hlink, ⟨_, _, _, hi⟩, hst⟩ (by rw [q2]; exact h6) q1 q3 (by rw [hsl]; exact k2_hasslot (q4 k hk)) rfl rfl hd fun H' e1 e2 e3 => ?_
    rw [hsl] at e1 ⊢
    exact kk H' _ (done H' e1 e2 e3) (hS0.put e2 e3 hla)
  · unfold u_lay at hlay
    rw [if_pos h0] at hlay
    have hcf : m.cls = cf := by
      obtain ⟨_, _, c', _, _, _, -, -, hf', -, -, -, hown2, -⟩ := Cond.laysFinal_spec hlay
      have e1 : c' = cf := by have := hi.symm.trans hf'; simp at this; exact this.1.symm
      rw [h2] at hown2
      rw [← e1]; exact Option.some.inj (hown.symm.trans hown2)
    have h6 := u_fits hfc hkC hkind (Or.inr hlay) hi (hO.2.2.1 k hk) hn hfit
    refine W.putFinK hx hb hown (hts _ hlink) hi hst hcf (hmn h1) (by rw [q2]; exact h6) q1 q3 (by rw [hsl]; exact k2_hasslot (q4 k hk)) rfl rfl hd fun H' e1 e2 e3 => ?_
    rw [hsl] at e1 ⊢
    exact kk H' _ (done H' e1 e2 e3) (hS0.put e2 e3 hla)
theorem zq_in {j : Int32} {n : Nat} (h0 : 0 ≤ j) (h1 : j.toNatClampNeg < n) : ¬ (j < 0 ∨ n ≤ j.toNatClampNeg) := by
  rintro (q | q)
  · exact absurd h0 (Int32.not_le.mpr q)
  · omega
theorem zq_arrOf (hK : zq_K D dA s) {t : Nat} {ty : FieldType} (h : (t, ty) ∈ zq_arr) : ArrOfT s (dA t) ty := (hK.2.1 _ h).1
set_option maxHeartbeats 4000000 in
theorem zq_iald_W {a : Nat} {j : Int32} (hX : zq_X p R s m args meth c i d D dA) (hd : decode (zq_bc i) pc = .ok (.iaload, 1)) (hW : zq_W D dA lo sh I P nx H) (ht : (sh a).1 = 1 ∨ (sh a).1 = 2) (h0 : 0 ≤ j) (hj : j.toNatClampNeg < (sh a).2)
    (kk : W p l e R s m args below meth c H locs cells slots Q (F0 m (pc + 1) ls (.int (I a j.toNatClampNeg) :: rest))) : W p l e R s m args below meth c H locs cells slots Q (F0 m pc ls (.int j :: .ref a :: rest)) := by
  obtain ⟨hx, hb, -, hown, hts, hmn, hK, -⟩ := hX
  have hcell := hW.2 a
  rcases ht with ht | ht
  · rw [ht] at hcell
    unfold zq_cell at hcell
    rw [if_neg (by decide), if_pos rfl] at hcell
    obtain ⟨scr, h1, h2, h3, h4, h5, h6⟩ := hcell
    obtain ⟨-, kA, hkA, comp, hcomp⟩ := zq_arrOf hK zq_t_a1 0 (fun _ => .null)
    exact W.iald (v := .int (I a j.toNatClampNeg)) hx hb h1 ⟨h3, kA, by rw [h2]; exact hkA, comp, hcomp⟩ h4 (by rw [h5]; exact zq_in h0 hj) (h6 _ hj) rfl rfl hd kk
  · rw [ht] at hcell
    obtain ⟨-, -, h1⟩ := hcell.arr (by decide) (by decide)
    refine W.iald (v := .int (I a j.toNatClampNeg)) hx hb h1 (zq_arrOf hK zq_t_a2 _ _) (fun q => by cases q) (by rw [arrV_size]; exact zq_in h0 hj) ?_ rfl rfl hd kk
    rw [arrV_read _ _ hj, zq_v_int (zq_pt_lo (by decide) _)]
set_option maxHeartbeats 4000000 in
theorem zq_bald_W {a : Nat} {j : Int32} (hX : zq_X p R s m args meth c i d D dA) (hd : decode (zq_bc i) pc = .ok (.baload, 1)) (hW : zq_W D dA lo sh I P nx H) (ht : (sh a).1 = 3) (h0 : 0 ≤ j) (hj : j.toNatClampNeg < (sh a).2)
    (kk : W p l e R s m args below meth c H locs cells slots Q (F0 m (pc + 1) ls (.int (I a j.toNatClampNeg) :: rest))) : W p l e R s m args below meth c H locs cells slots Q (F0 m pc ls (.int j :: .ref a :: rest)) := by
  obtain ⟨hx, hb, -, hown, hts, hmn, hK, -⟩ := hX
  have hcell := hW.2 a
  rw [ht] at hcell
  obtain ⟨-, -, h1⟩ := hcell.arr (by decide) (by decide)
  refine W.zald (v := .int (I a j.toNatClampNeg)) hx hb h1 (zq_arrOf hK zq_t_a3 _ _) (fun q => by cases q) (by rw [arrV_size]; exact zq_in h0 hj) ?_ rfl rfl hd kk
  rw [arrV_read _ _ hj, zq_v_int (zq_pt_lo (by decide) _)]
set_option maxHeartbeats 4000000 in
theorem zq_aald_W {a : Nat} {j : Int32} (hX : zq_X p R s m args meth c i d D dA) (hd : decode (zq_bc i) pc = .ok (.aaload, 1)) (hW : zq_W D dA lo sh I P nx H) (ht : 50 ≤ (sh a).1) (ht2 : (sh a).1 < 100) (h0 : 0 ≤ j) (hj : j.toNatClampNeg < (sh a).2)
    (kk : W p l e R s m args below meth c H locs cells slots Q (F0 m (pc + 1) ls (va_rf (P a j.toNatClampNeg) :: rest))) : W p l e R s m args below meth c H locs cells slots Q (F0 m pc ls (.int j :: .ref a :: rest)) := by
  obtain ⟨hx, hb, -, hown, hts, hmn, hK, -⟩ := hX
  obtain ⟨-, ⟨ty, hty⟩, h1⟩ := (hW.2 a).arr (by omega) ht2
  refine W.aald (v := va_rf (P a j.toNatClampNeg)) (ty := ty) hx hb h1 (zq_arrOf hK hty _ _) (zq_t_aref hty ht) (fun q => by cases q) (by rw [arrV_size]; exact zq_in h0 hj) ?_ rfl rfl hd kk
  rw [arrV_read _ _ hj, zq_v_ptr (zq_pt_mid ht ht2 _)]
set_option maxHeartbeats 4000000 in
theorem zq_iast_W {a : Nat} {j x : Int32} (hX : zq_X p R s m args meth c i d D dA) (hd : decode (zq_bc i) pc = .ok (.iastore, 1)) (hW : zq_W D dA lo sh I P nx H) (hS0 : va_S (fun q => lo ≤ q) s.heap H locs) (ht : (sh a).1 = 2) (h0 : 0 ≤ j) (hj : j.toNatClampNeg < (sh a).2)
    (kk : ∀ (H' : Heap) (locs' : List Loc), zq_W D dA lo sh (zq_up I a j.toNatClampNeg x) P nx H' → va_S (fun q => lo ≤ q) s.heap H' locs' → W p l e R s m args below meth c H' locs' cells slots Q (F0 m (pc + 1) ls rest)) : W p l e R s m args below meth c H locs cells slots Q (F0 m pc ls (.int x :: .int j :: .ref a :: rest)) := by
  obtain ⟨hx, hb, -, hown, hts, hmn, hK, -⟩ := hX
  have hcell := hW.2 a
  rw [ht] at hcell
  obtain ⟨hla, hex, h1⟩ := hcell.arr (by decide) (by decide)
  refine W.iast hx hb h1 (zq_arrOf hK zq_t_a2 _ _) (fun q => by cases q) (by rw [arrV_size]; exact zq_in h0 hj) rfl rfl hd fun H1 e1 z oq => ?_
  refine kk H1 _ (hW.put z oq (fun b hb => zq_up_ne b hb) (fun b hb => rfl) ?_) (hS0.put z oq hla)
  rw [ht]
  refine zq_cell.mkarr (by decide) (by decide) ⟨hla, hex, ?_⟩
  rw [e1, arrV_store]
  congr 2
  funext q
  exact zq_v_upI (zq_pt_lo (by decide) _) q
set_option maxHeartbeats 4000000 in
theorem zq_bast_W {a : Nat} {j x : Int32} (hX : zq_X p R s m args meth c i d D dA) (hd : decode (zq_bc i) pc = .ok (.bastore, 1)) (hW : zq_W D dA lo sh I P nx H) (hS0 : va_S (fun q => lo ≤ q) s.heap H locs) (ht : (sh a).1 = 3) (h0 : 0 ≤ j) (hj : j.toNatClampNeg < (sh a).2)
    (kk : ∀ (H' : Heap) (locs' : List Loc), zq_W D dA lo sh (zq_up I a j.toNatClampNeg (x &&& 1)) P nx H' → va_S (fun q => lo ≤ q) s.heap H' locs' → W p l e R s m args below meth c H' locs' cells slots Q (F0 m (pc + 1) ls rest)) : W p l e R s m args below meth c H locs cells slots Q (F0 m pc ls (.int x :: .int j :: .ref a :: rest)) := by
  obtain ⟨hx, hb, -, hown, hts, hmn, hK, -⟩ := hX
  have hcell := hW.2 a
  rw [ht] at hcell
  obtain ⟨hla, hex, h1⟩ := hcell.arr (by decide) (by decide)
  refine W.zast hx hb h1 (zq_arrOf hK zq_t_a3 _ _) (fun q => by cases q) (by rw [arrV_size]; exact zq_in h0 hj) rfl rfl hd fun H1 e1 z oq => ?_
  refine kk H1 _ (hW.put z oq (fun b hb => zq_up_ne b hb) (fun b hb => rfl) ?_) (hS0.put z oq hla)
  rw [ht]
  refine zq_cell.mkarr (by decide) (by decide) ⟨hla, hex, ?_⟩
  rw [e1, arrV_store]
  congr 2
  funext q
  exact zq_v_upI (zq_pt_lo (by decide) _) q
set_option maxHeartbeats 4000000 in
theorem zq_aast_W {a y : Nat} {j : Int32} (hX : zq_X p R s m args meth c i d D dA) (hd : decode (zq_bc i) pc = .ok (.aastore, 1)) (hW : zq_W D dA lo sh I P nx H) (hS0 : va_S (fun q => lo ≤ q) s.heap H locs) (ht : 50 ≤ (sh a).1) (ht2 : (sh a).1 < 100) (hy : (sh y).1 = (sh a).1 + 50) (h0 : 0 ≤ j) (hj : j.toNatClampNeg < (sh a).2)
    (kk : ∀ (H' : Heap) (locs' : List Loc), zq_W D dA lo sh I (zq_up P a j.toNatClampNeg (some y)) nx H' → va_S (fun q => lo ≤ q) s.heap H' locs' → W p l e R s m args below meth c H' locs' cells slots Q (F0 m (pc + 1) ls rest)) : W p l e R s m args below meth c H locs cells slots Q (F0 m pc ls (.ref y :: .int j :: .ref a :: rest)) := by
  obtain ⟨hx, hb, -, hown, hts, hmn, hK, -⟩ := hX
  obtain ⟨hla, hex, h1⟩ := (hW.2 a).arr (by omega) ht2
  obtain ⟨ty, hty⟩ := hex
  obtain ⟨ci, hci, C, T, N, hC, hO⟩ := zq_t_acls hty ht
  have hcy := hW.2 y
  rw [hy, show (sh a).1 + 50 = 100 + ci by omega] at hcy
  obtain ⟨-, r, hr, cellV, g1, g2, g3, -⟩ := hcy.obj
  cases hO.symm.trans hr
  have hcls := (hK.1 ci _ hO).2
  have hra : va_RA s (dA (sh a).1) ty := ((hK.2.1 _ hty).2).resolve_left (by show ¬ (sh a).1 = 1; omega)
  rw [hC] at hra
  obtain ⟨kA, comp, k1, k2, k3, -⟩ := hra
  have hcomp : comp = D.1 ci := Option.some.inj (k3.symm.trans hcls.1)
  subst hcomp
  obtain ⟨kC, hkC, -⟩ := hcls.2
  refine W.aast hx hb h1 (fun q h => by cases h) (fun h => by cases h) k1 k2 rfl hkC ⟨fun q => (zq_in h0 hj) (Or.inl q), by rw [arrV_size]; exact hj⟩ g1 (fun q h => by rw [g3] at h; cases h) (by rw [g2]; exact hkC) (by rw [g2]; exact va_assign hcls) rfl rfl hd fun H1 e1 z oq => ?_
  refine kk H1 _ (hW.put z oq (fun b hb => rfl) (fun b hb => zq_up_ne b hb) ?_) (hS0.put z oq hla)
  refine zq_cell.mkarr (by omega) ht2 ⟨hla, ⟨ty, hty⟩, ?_⟩
  rw [e1, arrV_store]
  congr 2
  funext q
  exact zq_v_upP (y := some y) (zq_pt_mid ht ht2 _) q
set_option maxHeartbeats 4000000 in
theorem zq_alen_W {a : Nat} (hX : zq_X p R s m args meth c i d D dA) (hd : decode (zq_bc i) pc = .ok (.arraylength, 1)) (hW : zq_W D dA lo sh I P nx H) (ht : 0 < (sh a).1) (ht2 : (sh a).1 < 100)
    (kk : W p l e R s m args below meth c H locs cells slots Q (F0 m (pc + 1) ls (.int (Int32.ofNat (sh a).2) :: rest))) : W p l e R s m args below meth c H locs cells slots Q (F0 m pc ls (.ref a :: rest)) := by
  obtain ⟨hx, hb, -, hown, hts, hmn, hK, -⟩ := hX
  by_cases h1 : (sh a).1 = 1
  · have hcell := hW.2 a
    rw [h1] at hcell
    unfold zq_cell at hcell
    rw [if_neg (by decide), if_pos rfl] at hcell
    obtain ⟨scr, h1, h2, h3, h4, h5, h6⟩ := hcell
    obtain ⟨-, kA, hkA, comp, hcomp⟩ := zq_arrOf hK zq_t_a1 0 (fun _ => .null)
    exact W.alen (n := Int32.ofNat (sh a).2) hx hb h1 ⟨h3, kA, by rw [h2]; exact hkA, comp, hcomp⟩ (by rw [h5] <;> rfl) rfl rfl hd kk
  · obtain ⟨-, ⟨ty, hty⟩, h2⟩ := (hW.2 a).arr (by omega) ht2
    exact W.alen (n := Int32.ofNat (sh a).2) hx hb h2 (zq_arrOf hK hty _ _) (by rw [arrV_size] <;> rfl) rfl rfl hd kk
set_option maxHeartbeats 4000000 in
theorem zq_new_W {idx ci : Nat} (hX : zq_X p R s m args meth c i d D dA) (hd : decode (zq_bc i) pc = .ok (.new idx, 3)) (hW : zq_W D dA lo sh I P nx H) (hS0 : va_S (fun q => lo ≤ q) s.heap H locs) (hlo : lo ≤ s.heap.size) (hf : zq_cls i idx = some ci) (hc : cells + 1 ≤ R.cells) (hs : slots + zq_nf ci ≤ R.slots)
    (kk : ∀ (H' : Heap) (locs' : List Loc), zq_W D dA lo (zq_us sh nx (100 + ci, 0)) (zq_row I nx 0) (zq_row P nx none) (nx + 1) H' → va_S (fun q => lo ≤ q) s.heap H' locs' → W p l e R s m args below meth c H' locs' (cells + 1) (slots + zq_nf ci) Q (F0 m (pc + 3) ls (.ref nx :: rest))) : W p l e R s m args below meth c H locs cells slots Q (F0 m pc ls rest) := by
  obtain ⟨hx, hb, -, hown, hts, hmn, hK, -⟩ := hX
  obtain ⟨C, T, hO, hcl, hin, hini⟩ := zq_t_cls hf
  have hKn := hK.1 ci _ hO.1
  obtain ⟨hsz, hW2⟩ := id hW
  subst hsz
  refine W.newcK hx hb hown (hts _ hcl) (hts _ hin) (hts _ hini) rfl hd hc hs hKn.2.1 rfl fun H1 kC hkC e1 z1 o1 => ?_
  refine kk H1 locs (hW.push z1 o1 (fun b hb => zq_us_ne b hb) (fun b hb => zq_row_ne b hb) (fun b hb => zq_row_ne b hb) ?_) ⟨Nat.le_trans hS0.1 (by omega), fun x h1 h2 => (o1 x (Nat.lt_of_lt_of_le h1 hS0.1)).trans (hS0.2.1 x h1 h2), hS0.2.2⟩
  rw [zq_us_eq]
  refine zq_cell.mkobj ⟨Nat.le_trans hlo hS0.1, _, hO.1, (u_born (zq_ty ci) hts hO.2.1 hKn hkC e1 hO.2.2.1).to (fun j hj => ?_)⟩
  rcases hO.2.2.2.2 j hj with ⟨h1, h2⟩ | ⟨h1, h2⟩
  · rw [h2, zq_v_int (by rw [zq_pt_obj]; exact h1)]
    simp [zq_row, defaultValue]
  · rw [zq_v_ptr (by rw [zq_pt_obj]; exact h1)]
    rcases h2 with ⟨n, h2⟩ | ⟨n, h2⟩ <;> rw [h2] <;> simp [zq_row, defaultValue, va_rf]
set_option maxHeartbeats 4000000 in
theorem zq_newa_W {t : Nat} {ty : FieldType} {atype : ArrayType} {n : Int32} (hat : newarray.typeOf atype = ty) (htt : (t, ty) ∈ zq_arr) (h1t : 1 < t) (h50 : t < 50) (hdv : defaultValue ty = .int 0) (hsz4 : componentBytes ty ≤ 8) (harr : Cond.arrayClass ty ∈ zq_tb) (hnr : ∀ U cA, va_RA U cA ty → U.vm.findClass ("[" ++ ty.toString) = some cA) (hX : zq_X p R s m args meth c i d D dA) (hd : decode (zq_bc i) pc = .ok (.newarray atype, 2)) (hW : zq_W D dA lo sh I P nx H) (hS0 : va_S (fun q => lo ≤ q) s.heap H locs) (hlo : lo ≤ s.heap.size) (h0 : 0 ≤ n) (hbd : n.toNatClampNeg ≤ 1000000) (hc : cells + 1 ≤ R.cells) (hs : slots + n.toNatClampNeg ≤ R.slots)
    (kk : ∀ (H' : Heap) (locs' : List Loc), zq_W D dA lo (zq_us sh nx (t, n.toNatClampNeg)) (zq_row I nx 0) P (nx + 1) H' → va_S (fun q => lo ≤ q) s.heap H' locs' → W p l e R s m args below meth c H' locs' (cells + 1) (slots + n.toNatClampNeg) Q (F0 m (pc + 2) ls (.ref nx :: rest))) : W p l e R s m args below meth c H locs cells slots Q (F0 m pc ls (.int n :: rest)) := by
  obtain ⟨hx, hb, -, hown, hts, hmn, hK, -⟩ := hX
  obtain ⟨hsz, hW2⟩ := id hW
  subst hsz
  subst hat
  refine va_newaK hx hb (hts _ harr) rfl hd rfl (fun q => absurd h0 (Int32.not_le.mpr q)) rfl (by
    have : n.toNatClampNeg * componentBytes (newarray.typeOf atype) ≤ 1000000 * 8 := Nat.mul_le_mul hbd hsz4
    omega) hc hs rfl fun H1 cA e1 z1 o1 hAr hNm => ?_
  have hcA : cA = dA t := by
    have hra : va_RA s (dA t) (newarray.typeOf atype) := ((hK.2.1 _ htt).2).resolve_left (by show ¬ t = 1; omega)
    exact Option.some.inj (hNm.symm.trans (hnr _ _ hra))
  subst hcA
  refine kk H1 locs (hW.push z1 o1 (fun b hb => zq_us_ne b hb) (fun b hb => zq_row_ne b hb) (fun b hb => rfl) ?_) ⟨Nat.le_trans hS0.1 (by omega), fun x h1 h2 => (o1 x (Nat.lt_of_lt_of_le h1 hS0.1)).trans (hS0.2.1 x h1 h2), hS0.2.2⟩
  rw [zq_us_eq]
  refine zq_cell.mkarr h1t (by omega) ⟨Nat.le_trans hlo hS0.1, ⟨_, htt⟩, ?_⟩
  rw [e1, hdv]
  congr 2
  funext q
  rw [zq_v_int (zq_pt_lo h50 _)]
  simp [zq_row]
set_option maxHeartbeats 4000000 in
theorem zq_anew_W {idx ci : Nat} {n : Int32} (hX : zq_X p R s m args meth c i d D dA) (hd : decode (zq_bc i) pc = .ok (.anewarray idx, 3)) (hW : zq_W D dA lo sh I P nx H) (hS0 : va_S (fun q => lo ≤ q) s.heap H locs) (hlo : lo ≤ s.heap.size) (hf : zq_acl i idx = some ci) (h0 : 0 ≤ n) (hbd : n.toNatClampNeg ≤ 1000000) (hc : cells + 1 ≤ R.cells) (hs : slots + n.toNatClampNeg ≤ R.slots)
    (kk : ∀ (H' : Heap) (locs' : List Loc), zq_W D dA lo (zq_us sh nx (50 + ci, n.toNatClampNeg)) I (zq_row P nx none) (nx + 1) H' → va_S (fun q => lo ≤ q) s.heap H' locs' → W p l e R s m args below meth c H' locs' (cells + 1) (slots + n.toNatClampNeg) Q (F0 m (pc + 3) ls (.ref nx :: rest))) : W p l e R s m args below meth c H locs cells slots Q (F0 m pc ls (.int n :: rest)) := by
  obtain ⟨hx, hb, -, hown, hts, hmn, hK, -⟩ := hX
  obtain ⟨C, hcl, hao, hmem, hci⟩ := zq_t_acl hf
  obtain ⟨hsz, hW2⟩ := id hW
  subst hsz
  refine W.anew hx hb hown (hts _ hcl) (va_AO.use (hK.2.2.2 C hao)) rfl hd rfl (fun q => absurd h0 (Int32.not_le.mpr q)) (by omega) hc hs fun cA kA comp f1 f2 f3 f4 => ?_
  have hcA : cA = dA (50 + ci) := by
    have hra : va_RA s (dA (50 + ci)) (.object C) := ((hK.2.1 _ hmem).2).resolve_left (by show ¬ 50 + ci = 1; omega)
    obtain ⟨_, _, _, _, _, k4⟩ := hra
    exact Option.some.inj (f1.symm.trans k4)
  subst hcA
  generalize hH1 : H.push ({ cls := dA (50 + ci), slots := Array.replicate n.toNatClampNeg .null, vm := .none } : Cell) = H1
  have z1 : H1.size = H.size + 1 := by rw [← hH1, Array.size_push]
  have e1 : H1[H.size]? = some (arrV (dA (50 + ci)) n.toNatClampNeg (fun _ => .null)) := by rw [← hH1, Array.getElem?_push_size, ← arrV_new]
  have o1 : ∀ q : Nat, q < H.size → H1[q]? = H[q]? := fun q hq => by rw [← hH1, Array.getElem?_push, if_neg (Nat.ne_of_lt hq)]
  refine kk H1 locs (hW.push z1 o1 (fun b hb => zq_us_ne b hb) (fun b hb => rfl) (fun b hb => zq_row_ne b hb) ?_) ⟨Nat.le_trans hS0.1 (by omega), fun x h1 h2 => (o1 x (Nat.lt_of_lt_of_le h1 hS0.1)).trans (hS0.2.1 x h1 h2), hS0.2.2⟩
  rw [zq_us_eq]
  refine zq_cell.mkarr (by omega) (by omega) ⟨Nat.le_trans hlo hS0.1, ⟨_, hmem⟩, ?_⟩
  rw [e1]
  congr 2
  funext q
  rw [zq_v_ptr (zq_pt_mid (by omega) (by omega) _)]
  simp [zq_row, va_rf]
set_option maxHeartbeats 4000000 in
theorem zq_heap_le {ins : Instr} {len nx' kx' : Nat} {st' : List Value} {sh' : zq_S} {I' : zq_I} {P' : zq_P} (h : zq_heap i ins st sh I P nx kx = some (len, st', sh', I', P', nx', kx')) : nx ≤ nx' ∧ kx ≤ kx' := by
  cases ins
  case getfield idx =>
    replace h : zq_getf (zq_fld i idx) st sh I P nx kx = _ := h
    unfold zq_getf at h
    split at h
    · split at h
      · split at h <;> (cases h; exact ⟨Nat.le_refl _, Nat.le_refl _⟩)
      · cases h
    · cases h
  case putfield idx =>
    replace h : zq_putf (zq_pok i idx) (zq_fld i idx) st sh I P nx kx = _ := h
    unfold zq_putf at h
    split at h
    · split at h
      · cases h; exact ⟨Nat.le_refl _, Nat.le_refl _⟩
      · cases h
    · split at h
      · cases h; exact ⟨Nat.le_refl _, Nat.le_refl _⟩
      · cases h
    · split at h
      · cases h; exact ⟨Nat.le_refl _, Nat.le_refl _⟩
      · cases h
    · cases h
  case iaload =>
    replace h : zq_iald st sh I P nx kx = _ := h
    unfold zq_iald at h
    split at h
    · split at h
      · cases h; exact ⟨Nat.le_refl _, Nat.le_refl _⟩
      · cases h
    · cases h
  case baload =>
    replace h : zq_bald st sh I P nx kx = _ := h
    unfold zq_bald at h
    split at h
    · split at h
      · cases h; exact ⟨Nat.le_refl _, Nat.le_refl _⟩
      · cases h
    · cases h
  case aaload =>
    replace h : zq_aald st sh I P nx kx = _ := h
    unfold zq_aald at h
    split at h
    · split at h
      · cases h; exact ⟨Nat.le_refl _, Nat.le_refl _⟩
      · cases h
    · cases h
  case iastore =>
    replace h : zq_iast st sh I P nx kx = _ := h
    unfold zq_iast at h
    split at h
    · split at h
      · cases h; exact ⟨Nat.le_refl _, Nat.le_refl _⟩
      · cases h
    · cases h
  case bastore =>
    replace h : zq_bast st sh I P nx kx = _ := h
    unfold zq_bast at h
    split at h
    · split at h
      · cases h; exact ⟨Nat.le_refl _, Nat.le_refl _⟩
      · cases h
    · cases h
  case aastore =>
    replace h : zq_aast st sh I P nx kx = _ := h
    unfold zq_aast at h
    split at h
    · split at h
      · cases h; exact ⟨Nat.le_refl _, Nat.le_refl _⟩
      · cases h
    · cases h
  case arraylength =>
    replace h : zq_alen st sh I P nx kx = _ := h
    unfold zq_alen at h
    split at h
    · split at h
      · cases h; exact ⟨Nat.le_refl _, Nat.le_refl _⟩
      · cases h
    · cases h
  case new idx =>
    replace h : zq_new (zq_cls i idx) st sh I P nx kx = _ := h
    unfold zq_new at h
    split at h
    · cases h; exact ⟨Nat.le_add_right _ _, Nat.le_add_right _ _⟩
    · cases h
  case newarray aty =>
    cases aty
    case int =>
      replace h : zq_newa 2 st sh I P nx kx = _ := h
      unfold zq_newa at h
      split at h
      · split at h
        · cases h; exact ⟨Nat.le_add_right _ _, Nat.le_add_right _ _⟩
        · cases h
      · cases h
    case boolean =>
      replace h : zq_newa 3 st sh I P nx kx = _ := h
      unfold zq_newa at h
      split at h
      · split at h
        · cases h; exact ⟨Nat.le_add_right _ _, Nat.le_add_right _ _⟩
        · cases h
      · cases h
    all_goals exact absurd h (fun q => by cases (show (none : Option zq_M) = some _ from q))
  case anewarray idx =>
    replace h : zq_anew (zq_acl i idx) st sh I P nx kx = _ := h
    unfold zq_anew at h
    split at h
    · split at h
      · cases h; exact ⟨Nat.le_add_right _ _, Nat.le_add_right _ _⟩
      · cases h
    · cases h
  case invokespecial idx =>
    replace h : zq_oini (zq_obj i idx) st sh I P nx kx = _ := h
    unfold zq_oini at h
    split at h
    · split at h
      · cases h; exact ⟨Nat.le_refl _, Nat.le_refl _⟩
      · cases h
    · cases h
  all_goals exact absurd h (fun q => by cases (show (none : Option zq_M) = some _ from q))
set_option maxHeartbeats 8000000 in
theorem zq_heap_W {ins : Instr} {len nx' kx' n : Nat} {L : zq_L} {st' : List Value} {sh' : zq_S} {I' : zq_I} {P' : zq_P} (hX : zq_X p R s m args meth c i d D dA) (hd0 : zq_dec (zq_bc i) pc ins) (hls : ls.size = zq_ml i) (hd1 : 0 < d) (hW : zq_W D dA lo sh I P nx H) (hS0 : va_S (fun q => lo ≤ q) s.heap H locs) (hlo : lo ≤ s.heap.size) (h : zq_heap i ins st sh I P nx kx = some (len, st', sh', I', P', nx', kx')) (hc : cells + (nx' - nx) ≤ R.cells) (hs : slots + (kx' - kx) ≤ R.slots)
    (kk : ∀ (H' : Heap) (locs' : List Loc), zq_W D dA lo sh' I' P' nx' H' → va_S (fun q => lo ≤ q) s.heap H' locs' → W p l e R s m args below meth c H' locs' (cells + (nx' - nx)) (slots + (kx' - kx)) Q (F0 m (pc + len) ls st')) : W p l e R s m args below meth c H locs cells slots Q (F0 m pc ls st) := by
  cases ins
  case getfield idx =>
    have hd := hd0.at rfl
    replace h : zq_getf (zq_fld i idx) st sh I P nx kx = _ := h
    unfold zq_getf at h
    split at h
    · rename_i ci k a r hf
      split at h
      · rename_i ht
        split at h
        · rename_i hp
          cases h
          simp only [Nat.sub_self, Nat.add_zero] at kk
          refine zq_get_W hX hd hW hf ht ?_
          rw [zq_v_ptr (by rw [zq_pt_obj]; exact hp)]
          exact kk H locs hW hS0
        · rename_i hp
          cases h
          simp only [Nat.sub_self, Nat.add_zero] at kk
          refine zq_get_W hX hd hW hf ht ?_
          rw [zq_v_int (by rw [zq_pt_obj]; exact Bool.eq_false_iff.mpr hp)]
          exact kk H locs hW hS0
      · cases h
    · cases h
  case putfield idx =>
    have hd := hd0.at rfl
    replace h : zq_putf (zq_pok i idx) (zq_fld i idx) st sh I P nx kx = _ := h
    unfold zq_putf at h
    split at h
    · rename_i ci k x a r hf
      split at h
      · rename_i hq
        cases h
        simp only [Nat.sub_self, Nat.add_zero] at kk
        exact zq_put_W hX hd hW hS0 hf hq.2.2 hq.1 (Or.inl ⟨hq.2.1, _, rfl⟩) (fun b hb => zq_up_ne b hb) (fun b hb => rfl) (zq_v_upI (by rw [zq_pt_obj]; exact hq.2.1)) kk
      · cases h
    · rename_i ci k y a r hf
      split at h
      · rename_i hq
        cases h
        simp only [Nat.sub_self, Nat.add_zero] at kk
        exact zq_put_W hX hd hW hS0 hf hq.2.2 hq.1 (Or.inr ⟨hq.2.1, rfl⟩) (fun b hb => rfl) (fun b hb => zq_up_ne b hb) (zq_v_upP (y := some y) (by rw [zq_pt_obj]; exact hq.2.1)) kk
      · cases h
    · rename_i ci k a r hf
      split at h
      · rename_i hq
        cases h
        simp only [Nat.sub_self, Nat.add_zero] at kk
        exact zq_put_W hX hd hW hS0 hf hq.2.2 hq.1 (Or.inr ⟨hq.2.1, rfl⟩) (fun b hb => rfl) (fun b hb => zq_up_ne b hb) (zq_v_upP (y := none) (by rw [zq_pt_obj]; exact hq.2.1)) kk
      · cases h
    · cases h
  case iaload =>
    have hd := hd0.at rfl
    replace h : zq_iald st sh I P nx kx = _ := h
    unfold zq_iald at h
    split at h
    · split at h
      · rename_i hq
        cases h
        simp only [Nat.sub_self, Nat.add_zero] at kk
        exact zq_iald_W hX hd hW hq.1 hq.2.1 hq.2.2 (kk H locs hW hS0)
      · cases h
    · cases h
  case baload =>
    have hd := hd0.at rfl
    replace h : zq_bald st sh I P nx kx = _ := h
    unfold zq_bald at h
    split at h
    · split at h
      · rename_i hq
        cases h
        simp only [Nat.sub_self, Nat.add_zero] at kk
        exact zq_bald_W hX hd hW hq.1 hq.2.1 hq.2.2 (kk H locs hW hS0)
      · cases h
    · cases h
  case aaload =>
    have hd := hd0.at rfl
    replace h : zq_aald st sh I P nx kx = _ := h
    unfold zq_aald at h
    split at h
    · split at h
      · rename_i hq
        cases h
        simp only [Nat.sub_self, Nat.add_zero] at kk
        exact zq_aald_W hX hd hW hq.1 hq.2.1 hq.2.2.1 hq.2.2.2 (kk H locs hW hS0)
      · cases h
    · cases h
  case iastore =>
    have hd := hd0.at rfl
    replace h : zq_iast st sh I P nx kx = _ := h
    unfold zq_iast at h
    split at h
    · split at h
      · rename_i hq
        cases h
        simp only [Nat.sub_self, Nat.add_zero] at kk
        exact zq_iast_W hX hd hW hS0 hq.1 hq.2.1 hq.2.2 kk
      · cases h
    · cases h
  case bastore =>
    have hd := hd0.at rfl
    replace h : zq_bast st sh I P nx kx = _ := h
    unfold zq_bast at h
    split at h
    · split at h
      · rename_i hq
        cases h
        simp only [Nat.sub_self, Nat.add_zero] at kk
        exact zq_bast_W hX hd hW hS0 hq.1 hq.2.1 hq.2.2 kk
      · cases h
    · cases h
  case aastore =>
    have hd := hd0.at rfl
    replace h : zq_aast st sh I P nx kx = _ := h
    unfold zq_aast at h
    split at h
    · split at h
      · rename_i hq
        cases h
        simp only [Nat.sub_self, Nat.add_zero] at kk
        exact zq_aast_W hX hd hW hS0 hq.1 hq.2.1 hq.2.2.1 hq.2.2.2.1 hq.2.2.2.2 kk
      · cases h
    · cases h
  case arraylength =>
    have hd := hd0.at rfl
    replace h : zq_alen st sh I P nx kx = _ := h
    unfold zq_alen at h
    split at h
    · split at h
      · rename_i hq
        cases h
        simp only [Nat.sub_self, Nat.add_zero] at kk
        exact zq_alen_W hX hd hW hq.1 hq.2 (kk H locs hW hS0)
      · cases h
    · cases h
  case new idx =>
    have hd := hd0.at rfl
    replace h : zq_new (zq_cls i idx) st sh I P nx kx = _ := h
    unfold zq_new at h
    split at h
    · rename_i ci hf
      cases h
      rw [Nat.add_sub_cancel_left] at hc hs
      simp only [Nat.add_sub_cancel_left] at kk
      exact zq_new_W hX hd hW hS0 hlo hf hc hs kk
    · cases h
  case newarray aty =>
    have hd := hd0.at rfl
    cases aty
    case int =>
      replace h : zq_newa 2 st sh I P nx kx = _ := h
      unfold zq_newa at h
      split at h
      · split at h
        · rename_i hq
          cases h
          rw [Nat.add_sub_cancel_left] at hc hs
          simp only [Nat.add_sub_cancel_left] at kk
          exact zq_newa_W (ty := .int) rfl zq_t_a2 (by decide) (by decide) rfl (by decide) zq_t_ai (fun U cA h => h) hX hd hW hS0 hlo hq.1 hq.2 hc hs kk
        · cases h
      · cases h
    case boolean =>
      replace h : zq_newa 3 st sh I P nx kx = _ := h
      unfold zq_newa at h
      split at h
      · split at h
        · rename_i hq
          cases h
          rw [Nat.add_sub_cancel_left] at hc hs
          simp only [Nat.add_sub_cancel_left] at kk
          exact zq_newa_W (ty := .boolean) rfl zq_t_a3 (by decide) (by decide) rfl (by decide) zq_t_az (fun U cA h => h) hX hd hW hS0 hlo hq.1 hq.2 hc hs kk
        · cases h
      · cases h
    all_goals exact absurd h (fun q => by cases (show (none : Option zq_M) = some _ from q))
  case anewarray idx =>
    have hd := hd0.at rfl
    replace h : zq_anew (zq_acl i idx) st sh I P nx kx = _ := h
    unfold zq_anew at h
    split at h
    · rename_i ci z r hf
      split at h
      · rename_i hq
        cases h
        rw [Nat.add_sub_cancel_left] at hc hs
        simp only [Nat.add_sub_cancel_left] at kk
        exact zq_anew_W hX hd hW hS0 hlo hf hq.1 hq.2 hc hs kk
      · cases h
    · cases h
  case invokespecial idx =>
    have hd := hd0.at rfl
    replace h : zq_oini (zq_obj i idx) st sh I P nx kx = _ := h
    unfold zq_oini at h
    split at h
    · rename_i a r
      split at h
      · rename_i hq
        cases h
        simp only [Nat.sub_self, Nat.add_zero] at kk
        obtain ⟨hx, hb, hml, hown, hts, -, -, hfr, hlc⟩ := hX
        refine W.objInit hx hb hown (hts _ (zq_t_obj hq.1)) (hts _ zq_t_oi) (hts _ zq_t_oc) rfl (by rw [hml]; exact hls) rfl hd (by omega) ?_ (kk H locs hW hS0)
        have := hq.2
        show 2 * 0 + _ + 12 ≤ _
        omega
      · cases h
    · cases h
  all_goals exact absurd h (fun q => by cases (show (none : Option zq_M) = some _ from q))
end ZQH
